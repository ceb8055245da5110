abbrev rm_L_height : Room := { frames := 1, cells := 0, slots := 0, locals := 21 }
theorem hd_L_height : yL_height.cls ≠ "java/lang/invoke/MethodHandle" ∧ yL_height.cls ≠ "java/lang/invoke/VarHandle" ∧ (parseMethodDescriptor yL_height.desc).map (fun d => d.parameters.length) = some 2 := by decide +kernel
abbrev w_L_height (cA : ClassId) (a_q0 : Nat) (n_q0 : Nat) (c_q0 : A32) : va_W := [(a_q0, .inl (cA, n_q0, .inl c_q0))]
set_option maxHeartbeats 4000000 in
set_option maxRecDepth 100000 in
theorem t_L_height_b110 {l : Launch} {D : va_G} {cA : ClassId} {p : Program} {e : Env} {s : State} {m : MethodId} {args : Array Value} {below : List Frame} {meth : Method} {c : Code} {A : Nat → Prop} {Q : State → Prop} {z : Int32} {a_q0 : Nat}   {n_q0 : Nat} {c_q0 : A32} {v2 : Int32} {v3 : Int32} {v4 : Int32} {v5 : Int32} {k21 : Int32 → Int32 → Option (Int32)} {k33 : Int32 → Int32 → Option (Int32)} (X : GX p s m args c cL_height RL wsL_height D cA A 8) (hret : RtI p l e rm_L_height s m args below meth c cL_height D A 8 0 0 Q .int z (w_L_height cA a_q0 n_q0 c_q0)) (hk21 : ∀ (v2 : Int32) (v3 : Int32), k21 v2 v3 = some z → G p l e rm_L_height s m args below meth c D A 8 0 0 Q 21 [(0, .ref a_q0), (2, .int v2), (3, .int v3)] [] (w_L_height cA a_q0 n_q0 c_q0)) (hk33 : ∀ (v4 : Int32) (v5 : Int32), k33 v4 v5 = some z → G p l e rm_L_height s m args below meth c D A 8 0 0 Q 33 [(0, .ref a_q0), (2, .int v2), (3, .int v3), (4, .int v4), (5, .int v5)] [] (w_L_height cA a_q0 n_q0 c_q0)) (h : f_L_height_b110 k21 k33 n_q0 c_q0 v2 v3 v4 v5 = some z) : G p l e rm_L_height s m args below meth c D A 8 0 0 Q 110 [(0, .ref a_q0), (2, .int v2), (3, .int v3), (4, .int v4), (5, .int v5)] [] (w_L_height cA a_q0 n_q0 c_q0) := by
  have h : (nam (v5 + 1) fun v5_1 => k33 v4 v5_1 : Option (Int32)) = some z := h
  obtain ⟨v5_1, ev5_1, h⟩ := nam_s h
  refine g_iinc (v := v5_1) (lv' := [(5, .int v5_1), (0, .ref a_q0), (2, .int v2), (3, .int v3), (4, .int v4)]) X 4 rfl (by rw [ev5_1]; rfl) (by decide) rfl dL_height_110 rfl ?_
  refine g_goto (tgt := 33) X dL_height_113 (by decide) ?_
  refine g_lvs [1, 2, 3, 4, 0] rfl ?_
  exact hk33 _ _ h
set_option maxHeartbeats 4000000 in
set_option maxRecDepth 100000 in
theorem t_L_height_b82 {l : Launch} {D : va_G} {cA : ClassId} {p : Program} {e : Env} {s : State} {m : MethodId} {args : Array Value} {below : List Frame} {meth : Method} {c : Code} {A : Nat → Prop} {Q : State → Prop} {z : Int32} {a_q0 : Nat}   {n_q0 : Nat} {c_q0 : A32} {v2 : Int32} {v3 : Int32} {v4 : Int32} {v5 : Int32} {k21 : Int32 → Int32 → Option (Int32)} {k33 : Int32 → Int32 → Option (Int32)} (X : GX p s m args c cL_height RL wsL_height D cA A 8) (hret : RtI p l e rm_L_height s m args below meth c cL_height D A 8 0 0 Q .int z (w_L_height cA a_q0 n_q0 c_q0)) (hk21 : ∀ (v2 : Int32) (v3 : Int32), k21 v2 v3 = some z → G p l e rm_L_height s m args below meth c D A 8 0 0 Q 21 [(0, .ref a_q0), (2, .int v2), (3, .int v3)] [] (w_L_height cA a_q0 n_q0 c_q0)) (hk33 : ∀ (v4 : Int32) (v5 : Int32), k33 v4 v5 = some z → G p l e rm_L_height s m args below meth c D A 8 0 0 Q 33 [(0, .ref a_q0), (2, .int v2), (3, .int v3), (4, .int v4), (5, .int v5)] [] (w_L_height cA a_q0 n_q0 c_q0)) (h : f_L_height_b82 k21 k33 n_q0 c_q0 v2 v3 v4 v5 = some z) : G p l e rm_L_height s m args below meth c D A 8 0 0 Q 82 [(0, .ref a_q0), (2, .int v2), (3, .int v3), (4, .int v4), (5, .int v5)] [] (w_L_height cA a_q0 n_q0 c_q0) := by
  have h : (if inB (11 + v5) n_q0 then if ((v2 >>> ((c_q0 (11 + v5).toNatClampNeg) &&& 31)) &&& 1) = 1 then if inB (1 + v5) n_q0 then nam (v4 ||| (1 <<< ((c_q0 (1 + v5).toNatClampNeg) &&& 31))) fun v4_2 => f_L_height_b110 k21 k33 n_q0 c_q0 v2 v3 v4_2 v5 else none else f_L_height_b110 k21 k33 n_q0 c_q0 v2 v3 v4 v5 else none : Option (Int32)) = some z := h
  refine g_iload_n X 1 rfl rfl dL_height_82 rfl ?_
  refine g_aload_n X 0 rfl rfl dL_height_83 rfl ?_
  refine g_bipush (v := 11) X dL_height_84 (by decide) rfl ?_
  refine g_iload X 4 rfl dL_height_86 rfl ?_
  refine g_iadd X dL_height_88 rfl ?_
  refine g_iald X 0 rfl dL_height_89 rfl h (fun h => ?_)
  refine g_ishr X dL_height_90 rfl ?_
  refine g_iconst (v := 1) X dL_height_91 (by decide) rfl ?_
  refine g_iand X dL_height_92 rfl ?_
  refine g_iconst (v := 1) X dL_height_93 (by decide) rfl ?_
  refine g_icmp_ne (tgt := 110) X dL_height_94 (by decide) rfl h (fun c_1 h => ?_) (fun c_1 h => ?_)
  · exact t_L_height_b110 X hret hk21 hk33 h
  · refine g_iload X 3 rfl dL_height_97 rfl ?_
    refine g_iconst (v := 1) X dL_height_99 (by decide) rfl ?_
    refine g_aload_n X 0 rfl rfl dL_height_100 rfl ?_
    refine g_iconst (v := 1) X dL_height_101 (by decide) rfl ?_
    refine g_iload X 4 rfl dL_height_102 rfl ?_
    refine g_iadd X dL_height_104 rfl ?_
    refine g_iald X 0 rfl dL_height_105 rfl h (fun h => ?_)
    refine g_ishl X dL_height_106 rfl ?_
    refine g_ior X dL_height_107 rfl ?_
    refine g_nami h (fun v4_2 h => ?_)
    refine g_istore (lv' := [(4, .int v4_2), (0, .ref a_q0), (2, .int v2), (3, .int v3), (5, .int v5)]) X (by decide) rfl dL_height_108 rfl ?_
    refine g_lvs [1, 2, 3, 0, 4] rfl ?_
    exact t_L_height_b110 X hret hk21 hk33 h
set_option maxHeartbeats 4000000 in
set_option maxRecDepth 100000 in
theorem t_L_height_b169 {l : Launch} {D : va_G} {cA : ClassId} {p : Program} {e : Env} {s : State} {m : MethodId} {args : Array Value} {below : List Frame} {meth : Method} {c : Code} {A : Nat → Prop} {Q : State → Prop} {z : Int32} {a_q0 : Nat}   {n_q0 : Nat} {c_q0 : A32} {v3 : Int32} {v4 : Int32} {v5 : Int32} {v6 : Int32} {v7 : Int32} {k21 : Int32 → Int32 → Option (Int32)} {k125 : Int32 → Int32 → Int32 → Option (Int32)} (X : GX p s m args c cL_height RL wsL_height D cA A 8) (hret : RtI p l e rm_L_height s m args below meth c cL_height D A 8 0 0 Q .int z (w_L_height cA a_q0 n_q0 c_q0)) (hk21 : ∀ (v2 : Int32) (v3 : Int32), k21 v2 v3 = some z → G p l e rm_L_height s m args below meth c D A 8 0 0 Q 21 [(0, .ref a_q0), (2, .int v2), (3, .int v3)] [] (w_L_height cA a_q0 n_q0 c_q0)) (hk125 : ∀ (v5 : Int32) (v6 : Int32) (v7 : Int32), k125 v5 v6 v7 = some z → G p l e rm_L_height s m args below meth c D A 8 0 0 Q 125 [(0, .ref a_q0), (3, .int v3), (4, .int v4), (5, .int v5), (6, .int v6), (7, .int v7)] [] (w_L_height cA a_q0 n_q0 c_q0)) (h : f_L_height_b169 k21 k125 n_q0 c_q0 v3 v4 v5 v6 v7 = some z) : G p l e rm_L_height s m args below meth c D A 8 0 0 Q 169 [(0, .ref a_q0), (3, .int v3), (4, .int v4), (5, .int v5), (6, .int v6), (7, .int v7)] [] (w_L_height cA a_q0 n_q0 c_q0) := by
  have h : (nam (v7 + 1) fun v7_1 => k125 v5 v6 v7_1 : Option (Int32)) = some z := h
  obtain ⟨v7_1, ev7_1, h⟩ := nam_s h
  refine g_iinc (v := v7_1) (lv' := [(7, .int v7_1), (0, .ref a_q0), (3, .int v3), (4, .int v4), (5, .int v5), (6, .int v6)]) X 5 rfl (by rw [ev7_1]; rfl) (by decide) rfl dL_height_169 rfl ?_
  refine g_goto (tgt := 125) X dL_height_172 (by decide) ?_
  refine g_lvs [1, 2, 3, 4, 5, 0] rfl ?_
  exact hk125 _ _ _ h
set_option maxHeartbeats 4000000 in
set_option maxRecDepth 100000 in
theorem t_L_height_b125 {l : Launch} {D : va_G} {cA : ClassId} {p : Program} {e : Env} {s : State} {m : MethodId} {args : Array Value} {below : List Frame} {meth : Method} {c : Code} {A : Nat → Prop} {Q : State → Prop} {z : Int32} {a_q0 : Nat}   {n_q0 : Nat} {c_q0 : A32} {v3 : Int32} {v4 : Int32} {k21 : Int32 → Int32 → Option (Int32)} (X : GX p s m args c cL_height RL wsL_height D cA A 8) (hret : RtI p l e rm_L_height s m args below meth c cL_height D A 8 0 0 Q .int z (w_L_height cA a_q0 n_q0 c_q0)) (hk21 : ∀ (v2 : Int32) (v3 : Int32), k21 v2 v3 = some z → G p l e rm_L_height s m args below meth c D A 8 0 0 Q 21 [(0, .ref a_q0), (2, .int v2), (3, .int v3)] [] (w_L_height cA a_q0 n_q0 c_q0)) : ∀ (fu : Nat) (v5 : Int32) (v6 : Int32) (v7 : Int32), f_L_height_b125 k21 n_q0 c_q0 v3 v4 fu v5 v6 v7 = some z → G p l e rm_L_height s m args below meth c D A 8 0 0 Q 125 [(0, .ref a_q0), (3, .int v3), (4, .int v4), (5, .int v5), (6, .int v6), (7, .int v7)] [] (w_L_height cA a_q0 n_q0 c_q0) := by
  intro fu
  induction fu with
  | zero => intro v5 v6 v7 h; exact absurd (show (none : Option (Int32)) = some z from h) (by simp)
  | succ fu ih =>
    intro v5 v6 v7 h
    have h : (if 7 ≤ v7 then if v5 ≤ 0 then nam (v3 + 1) fun v3_3 => k21 v4 v3_3 else if v5 = 0 then none else some (v6 / v5) else if ((v4 >>> (v7 &&& 31)) &&& 1) = 0 then f_L_height_b169 k21 (f_L_height_b125 k21 n_q0 c_q0 v3 v4 fu) n_q0 c_q0 v3 v4 v5 v6 v7 else if inB (52 + v7) n_q0 then if (c_q0 (52 + v7).toNatClampNeg) = 0 then f_L_height_b169 k21 (f_L_height_b125 k21 n_q0 c_q0 v3 v4 fu) n_q0 c_q0 v3 v4 v5 v6 v7 else nam (v5 + 1) fun v5_7 => Option.bind (f_L_shaft n_q0 c_q0 v7) fun z_8 => nam (v6 + z_8) fun v6_9 => f_L_height_b169 k21 (f_L_height_b125 k21 n_q0 c_q0 v3 v4 fu) n_q0 c_q0 v3 v4 v5_7 v6_9 v7 else none : Option (Int32)) = some z := h
    refine g_iload X 5 rfl dL_height_125 rfl ?_
    refine g_bipush (v := 7) X dL_height_127 (by decide) rfl ?_
    refine g_icmp_ge (tgt := 175) X dL_height_129 (by decide) rfl h (fun c_1 h => ?_) (fun c_1 h => ?_)
    · refine g_iload X 3 rfl dL_height_175 rfl ?_
      refine g_if_le (tgt := 186) X dL_height_177 (by decide) rfl h (fun c_2 h => ?_) (fun c_2 h => ?_)
      · refine g_iload X 2 rfl dL_height_186 rfl ?_
        refine g_istore_n (lv' := [(2, .int v4), (0, .ref a_q0), (3, .int v3), (4, .int v4), (5, .int v5), (6, .int v6), (7, .int v7)]) X rfl (by decide) rfl dL_height_188 rfl ?_
        obtain ⟨v3_3, ev3_3, h⟩ := nam_s h
        refine g_iinc (v := v3_3) (lv' := [(3, .int v3_3), (2, .int v4), (0, .ref a_q0), (4, .int v4), (5, .int v5), (6, .int v6), (7, .int v7)]) X 2 rfl (by rw [ev3_3]; rfl) (by decide) rfl dL_height_189 rfl ?_
        refine g_goto (tgt := 21) X dL_height_192 (by decide) ?_
        refine g_lvs [2, 1, 0] rfl ?_
        exact hk21 _ _ h
      · refine g_iload X 4 rfl dL_height_180 rfl ?_
        refine g_iload X 3 rfl dL_height_182 rfl ?_
        obtain ⟨c_4, h⟩ := ite_n h
        refine g_idiv X dL_height_184 c_4 rfl ?_
        cases Option.some.inj h
        exact hret _ _ dL_height_185 rfl
    · refine g_iload X 2 rfl dL_height_132 rfl ?_
      refine g_iload X 5 rfl dL_height_134 rfl ?_
      refine g_ishr X dL_height_136 rfl ?_
      refine g_iconst (v := 1) X dL_height_137 (by decide) rfl ?_
      refine g_iand X dL_height_138 rfl ?_
      refine g_if_eq (tgt := 169) X dL_height_139 (by decide) rfl h (fun c_5 h => ?_) (fun c_5 h => ?_)
      · exact t_L_height_b169 X hret hk21 ih h
      · refine g_aload_n X 0 rfl rfl dL_height_142 rfl ?_
        refine g_bipush (v := 52) X dL_height_143 (by decide) rfl ?_
        refine g_iload X 5 rfl dL_height_145 rfl ?_
        refine g_iadd X dL_height_147 rfl ?_
        refine g_iald X 0 rfl dL_height_148 rfl h (fun h => ?_)
        refine g_if_ne (tgt := 155) X dL_height_149 (by decide) rfl h (fun c_6 h => ?_) (fun c_6 h => ?_)
        · obtain ⟨v5_7, ev5_7, h⟩ := nam_s h
          refine g_iinc (v := v5_7) (lv' := [(5, .int v5_7), (0, .ref a_q0), (3, .int v3), (4, .int v4), (6, .int v6), (7, .int v7)]) X 3 rfl (by rw [ev5_7]; rfl) (by decide) rfl dL_height_155 rfl ?_
          refine g_iload X 4 rfl dL_height_158 rfl ?_
          refine g_aload_n X 1 rfl rfl dL_height_160 rfl ?_
          refine g_iload X 5 rfl dL_height_161 rfl ?_
          obtain ⟨z_8, hz_8, h⟩ := bnd_s h
          refine g_callSI (rm := rm_L_shaft) (As := [.ref a_q0, .int v7]) (r := z_8) (W0 := (w_L_shaft cA a_q0 n_q0 c_q0)) (W1 := (w_L_shaft cA a_q0 n_q0 c_q0)) (isC := [0]) (isR := []) (perm := [0]) (ws' := (w_L_height cA a_q0 n_q0 c_q0)) X (c_L_shaft l D cA a_q0 n_q0 c_q0 v7 _ hz_8) gL_height_L_shaft rfl rfl rfl hd_L_shaft ⟨Nat.le_of_ble_eq_true rfl, Nat.le_of_ble_eq_true rfl⟩ rfl rfl (Nat.le_of_ble_eq_true rfl) rfl (by decide +kernel) rfl (by decide +kernel) (by decide +kernel) (by decide) rfl (by decide +kernel) dL_height_163 rfl ?_
          refine g_iadd X dL_height_166 rfl ?_
          refine g_nami h (fun v6_9 h => ?_)
          refine g_istore (lv' := [(6, .int v6_9), (5, .int v5_7), (0, .ref a_q0), (3, .int v3), (4, .int v4), (7, .int v7)]) X (by decide) rfl dL_height_167 rfl ?_
          refine g_lvs [2, 3, 4, 1, 0, 5] rfl ?_
          exact t_L_height_b169 X hret hk21 ih h
        · refine g_goto (tgt := 169) X dL_height_152 (by decide) ?_
          exact t_L_height_b169 X hret hk21 ih h
set_option maxHeartbeats 4000000 in
set_option maxRecDepth 100000 in
theorem t_L_height_b33 {l : Launch} {D : va_G} {cA : ClassId} {p : Program} {e : Env} {s : State} {m : MethodId} {args : Array Value} {below : List Frame} {meth : Method} {c : Code} {A : Nat → Prop} {Q : State → Prop} {z : Int32} {a_q0 : Nat}   {n_q0 : Nat} {c_q0 : A32} {v2 : Int32} {v3 : Int32} {k21 : Int32 → Int32 → Option (Int32)} (X : GX p s m args c cL_height RL wsL_height D cA A 8) (hret : RtI p l e rm_L_height s m args below meth c cL_height D A 8 0 0 Q .int z (w_L_height cA a_q0 n_q0 c_q0)) (hk21 : ∀ (v2 : Int32) (v3 : Int32), k21 v2 v3 = some z → G p l e rm_L_height s m args below meth c D A 8 0 0 Q 21 [(0, .ref a_q0), (2, .int v2), (3, .int v3)] [] (w_L_height cA a_q0 n_q0 c_q0)) : ∀ (fu : Nat) (v4 : Int32) (v5 : Int32), f_L_height_b33 k21 n_q0 c_q0 v2 v3 fu v4 v5 = some z → G p l e rm_L_height s m args below meth c D A 8 0 0 Q 33 [(0, .ref a_q0), (2, .int v2), (3, .int v3), (4, .int v4), (5, .int v5)] [] (w_L_height cA a_q0 n_q0 c_q0) := by
  intro fu
  induction fu with
  | zero => intro v4 v5 h; exact absurd (show (none : Option (Int32)) = some z from h) (by simp)
  | succ fu ih =>
    intro v4 v5 h
    have h : (if inB 0 n_q0 then if (c_q0 (Int32.toNatClampNeg 0)) ≤ v5 then f_L_height_b125 k21 n_q0 c_q0 v3 v4 FU 0 0 0 else if inB (41 + v5) n_q0 then if (c_q0 (41 + v5).toNatClampNeg) = 0 then f_L_height_b110 k21 (f_L_height_b33 k21 n_q0 c_q0 v2 v3 fu) n_q0 c_q0 v2 v3 v4 v5 else if inB (1 + v5) n_q0 then if ((v2 >>> ((c_q0 (1 + v5).toNatClampNeg) &&& 31)) &&& 1) = 1 then if inB (11 + v5) n_q0 then nam (v4 ||| (1 <<< ((c_q0 (11 + v5).toNatClampNeg) &&& 31))) fun v4_4 => f_L_height_b82 k21 (f_L_height_b33 k21 n_q0 c_q0 v2 v3 fu) n_q0 c_q0 v2 v3 v4_4 v5 else none else f_L_height_b82 k21 (f_L_height_b33 k21 n_q0 c_q0 v2 v3 fu) n_q0 c_q0 v2 v3 v4 v5 else none else none else none : Option (Int32)) = some z := h
    refine g_iload X 4 rfl dL_height_33 rfl ?_
    refine g_aload_n X 0 rfl rfl dL_height_35 rfl ?_
    refine g_iconst (v := 0) X dL_height_36 (by decide) rfl ?_
    refine g_iald X 0 rfl dL_height_37 rfl h (fun h => ?_)
    refine g_icmp_ge (tgt := 116) X dL_height_38 (by decide) rfl h (fun c_1 h => ?_) (fun c_1 h => ?_)
    · refine g_iconst (v := 0) X dL_height_116 (by decide) rfl ?_
      refine g_istore (lv' := [(5, .int 0), (0, .ref a_q0), (2, .int v2), (3, .int v3), (4, .int v4)]) X (by decide) rfl dL_height_117 rfl ?_
      refine g_iconst (v := 0) X dL_height_119 (by decide) rfl ?_
      refine g_istore (lv' := [(6, .int 0), (5, .int 0), (0, .ref a_q0), (2, .int v2), (3, .int v3), (4, .int v4)]) X (by decide) rfl dL_height_120 rfl ?_
      refine g_iconst (v := 0) X dL_height_122 (by decide) rfl ?_
      refine g_istore (lv' := [(7, .int 0), (6, .int 0), (5, .int 0), (0, .ref a_q0), (2, .int v2), (3, .int v3), (4, .int v4)]) X (by decide) rfl dL_height_123 rfl ?_
      refine g_lvs [3, 5, 6, 2, 1, 0] rfl ?_
      exact t_L_height_b125 X hret hk21 _ _ _ _ h
    · refine g_aload_n X 0 rfl rfl dL_height_41 rfl ?_
      refine g_bipush (v := 41) X dL_height_42 (by decide) rfl ?_
      refine g_iload X 4 rfl dL_height_44 rfl ?_
      refine g_iadd X dL_height_46 rfl ?_
      refine g_iald X 0 rfl dL_height_47 rfl h (fun h => ?_)
      refine g_if_ne (tgt := 54) X dL_height_48 (by decide) rfl h (fun c_2 h => ?_) (fun c_2 h => ?_)
      · refine g_iload_n X 1 rfl rfl dL_height_54 rfl ?_
        refine g_aload_n X 0 rfl rfl dL_height_55 rfl ?_
        refine g_iconst (v := 1) X dL_height_56 (by decide) rfl ?_
        refine g_iload X 4 rfl dL_height_57 rfl ?_
        refine g_iadd X dL_height_59 rfl ?_
        refine g_iald X 0 rfl dL_height_60 rfl h (fun h => ?_)
        refine g_ishr X dL_height_61 rfl ?_
        refine g_iconst (v := 1) X dL_height_62 (by decide) rfl ?_
        refine g_iand X dL_height_63 rfl ?_
        refine g_iconst (v := 1) X dL_height_64 (by decide) rfl ?_
        refine g_icmp_ne (tgt := 82) X dL_height_65 (by decide) rfl h (fun c_3 h => ?_) (fun c_3 h => ?_)
        · exact t_L_height_b82 X hret hk21 ih h
        · refine g_iload X 3 rfl dL_height_68 rfl ?_
          refine g_iconst (v := 1) X dL_height_70 (by decide) rfl ?_
          refine g_aload_n X 0 rfl rfl dL_height_71 rfl ?_
          refine g_bipush (v := 11) X dL_height_72 (by decide) rfl ?_
          refine g_iload X 4 rfl dL_height_74 rfl ?_
          refine g_iadd X dL_height_76 rfl ?_
          refine g_iald X 0 rfl dL_height_77 rfl h (fun h => ?_)
          refine g_ishl X dL_height_78 rfl ?_
          refine g_ior X dL_height_79 rfl ?_
          refine g_nami h (fun v4_4 h => ?_)
          refine g_istore (lv' := [(4, .int v4_4), (0, .ref a_q0), (2, .int v2), (3, .int v3), (5, .int v5)]) X (by decide) rfl dL_height_80 rfl ?_
          refine g_lvs [1, 2, 3, 0, 4] rfl ?_
          exact t_L_height_b82 X hret hk21 ih h
      · refine g_goto (tgt := 110) X dL_height_51 (by decide) ?_
        exact t_L_height_b110 X hret hk21 ih h
set_option maxHeartbeats 4000000 in
set_option maxRecDepth 100000 in
theorem t_L_height_b21 {l : Launch} {D : va_G} {cA : ClassId} {p : Program} {e : Env} {s : State} {m : MethodId} {args : Array Value} {below : List Frame} {meth : Method} {c : Code} {A : Nat → Prop} {Q : State → Prop} {z : Int32} {a_q0 : Nat}   {n_q0 : Nat} {c_q0 : A32}  (X : GX p s m args c cL_height RL wsL_height D cA A 8) (hret : RtI p l e rm_L_height s m args below meth c cL_height D A 8 0 0 Q .int z (w_L_height cA a_q0 n_q0 c_q0))  : ∀ (fu : Nat) (v2 : Int32) (v3 : Int32), f_L_height_b21 n_q0 c_q0 fu v2 v3 = some z → G p l e rm_L_height s m args below meth c D A 8 0 0 Q 21 [(0, .ref a_q0), (2, .int v2), (3, .int v3)] [] (w_L_height cA a_q0 n_q0 c_q0) := by
  intro fu
  induction fu with
  | zero => intro v2 v3 h; exact absurd (show (none : Option (Int32)) = some z from h) (by simp)
  | succ fu ih =>
    intro v2 v3 h
    have h : (if 7 ≤ v3 then some (-1) else f_L_height_b33 (f_L_height_b21 n_q0 c_q0 fu) n_q0 c_q0 v2 v3 FU v2 0 : Option (Int32)) = some z := h
    refine g_iload_n X 2 rfl rfl dL_height_21 rfl ?_
    refine g_bipush (v := 7) X dL_height_22 (by decide) rfl ?_
    refine g_icmp_ge (tgt := 195) X dL_height_24 (by decide) rfl h (fun c_1 h => ?_) (fun c_1 h => ?_)
    · refine g_iconst (v := (-1)) X dL_height_195 (by decide) rfl ?_
      cases Option.some.inj h
      exact hret _ _ dL_height_196 rfl
    · refine g_iload_n X 1 rfl rfl dL_height_27 rfl ?_
      refine g_istore (lv' := [(4, .int v2), (0, .ref a_q0), (2, .int v2), (3, .int v3)]) X (by decide) rfl dL_height_28 rfl ?_
      refine g_iconst (v := 0) X dL_height_30 (by decide) rfl ?_
      refine g_istore (lv' := [(5, .int 0), (4, .int v2), (0, .ref a_q0), (2, .int v2), (3, .int v3)]) X (by decide) rfl dL_height_31 rfl ?_
      refine g_lvs [2, 3, 4, 1, 0] rfl ?_
      exact t_L_height_b33 X hret ih _ _ _ h
set_option maxHeartbeats 4000000 in
set_option maxRecDepth 100000 in
theorem c_L_height (l : Launch) (D : va_G) (cA : ClassId) (a_q0 : Nat)  (n_q0 : Nat) (c_q0 : A32) (v1 : Int32) (z : Int32) (h : f_L_height n_q0 c_q0 v1 = some z) : CtI l yL_height wsL_height rm_L_height D cA [.ref a_q0, .int v1] (w_L_height cA a_q0 n_q0 c_q0) z (w_L_height cA a_q0 n_q0 c_q0) := by
  refine ct_I (maxL := 8) (ty := .int) (cc := cL_height) (by decide) rfl (Nat.le_of_ble_eq_true rfl) rfl (fun p e s m args below meth c A Q X hret => ?_)
  have h : (if inB (52 + v1) n_q0 then if (c_q0 (52 + v1).toNatClampNeg) ≤ 0 then nam (1 <<< (v1 &&& 31)) fun v2_2 => f_L_height_b21 n_q0 c_q0 FU v2_2 0 else Option.bind (f_L_shaft n_q0 c_q0 v1) fun z_3 => some z_3 else none : Option (Int32)) = some z := h
  refine g_aload_n X 0 rfl rfl dL_height_0 rfl ?_
  refine g_bipush (v := 52) X dL_height_1 (by decide) rfl ?_
  refine g_iload_n X 1 rfl rfl dL_height_3 rfl ?_
  refine g_iadd X dL_height_4 rfl ?_
  refine g_iald X 0 rfl dL_height_5 rfl h (fun h => ?_)
  refine g_if_le (tgt := 15) X dL_height_6 (by decide) rfl h (fun c_1 h => ?_) (fun c_1 h => ?_)
  · refine g_iconst (v := 1) X dL_height_15 (by decide) rfl ?_
    refine g_iload_n X 1 rfl rfl dL_height_16 rfl ?_
    refine g_ishl X dL_height_17 rfl ?_
    refine g_nami h (fun v2_2 h => ?_)
    refine g_istore_n (lv' := [(2, .int v2_2), (0, .ref a_q0), (1, .int v1)]) X rfl (by decide) rfl dL_height_18 rfl ?_
    refine g_iconst (v := 0) X dL_height_19 (by decide) rfl ?_
    refine g_istore_n (lv' := [(3, .int 0), (2, .int v2_2), (0, .ref a_q0), (1, .int v1)]) X rfl (by decide) rfl dL_height_20 rfl ?_
    refine g_lvs [2, 1, 0] rfl ?_
    exact t_L_height_b21 X hret _ _ _ h
  · refine g_aload_n X 0 rfl rfl dL_height_9 rfl ?_
    refine g_iload_n X 1 rfl rfl dL_height_10 rfl ?_
    obtain ⟨z_3, hz_3, h⟩ := bnd_s h
    refine g_callSI (rm := rm_L_shaft) (As := [.ref a_q0, .int v1]) (r := z_3) (W0 := (w_L_shaft cA a_q0 n_q0 c_q0)) (W1 := (w_L_shaft cA a_q0 n_q0 c_q0)) (isC := [0]) (isR := []) (perm := [0]) (ws' := (w_L_height cA a_q0 n_q0 c_q0)) X (c_L_shaft l D cA a_q0 n_q0 c_q0 v1 _ hz_3) gL_height_L_shaft rfl rfl rfl hd_L_shaft ⟨Nat.le_of_ble_eq_true rfl, Nat.le_of_ble_eq_true rfl⟩ rfl rfl (Nat.le_of_ble_eq_true rfl) rfl (by decide +kernel) rfl (by decide +kernel) (by decide +kernel) (by decide) rfl (by decide +kernel) dL_height_11 rfl ?_
    cases Option.some.inj h
    exact hret _ _ dL_height_14 rfl
abbrev rm_L_into : Room := { frames := 2, cells := 0, slots := 0, locals := 48 }
theorem hd_L_into : yL_into.cls ≠ "java/lang/invoke/MethodHandle" ∧ yL_into.cls ≠ "java/lang/invoke/VarHandle" ∧ (parseMethodDescriptor yL_into.desc).map (fun d => d.parameters.length) = some 2 := by decide +kernel
abbrev w_L_into (cA : ClassId) (a_q0 : Nat) (n_q0 : Nat) (c_q0 : A32) : va_W := [(a_q0, .inl (cA, n_q0, .inl c_q0))]
set_option maxHeartbeats 4000000 in
set_option maxRecDepth 100000 in
theorem t_L_into_b45 {l : Launch} {D : va_G} {cA : ClassId} {p : Program} {e : Env} {s : State} {m : MethodId} {args : Array Value} {below : List Frame} {meth : Method} {c : Code} {A : Nat → Prop} {Q : State → Prop} {z : Int32} {a_q0 : Nat}  {c_q0 : A32} {n_q0 : Nat}  (X : GX p s m args c cL_into RL wsL_into D cA A 4) (hret : RtI p l e rm_L_into s m args below meth c cL_into D A 4 0 0 Q .int z (w_L_into cA a_q0 n_q0 c_q0))  (h : f_L_into_b45 n_q0 = some z) : G p l e rm_L_into s m args below meth c D A 4 0 0 Q 45 [] [] (w_L_into cA a_q0 n_q0 c_q0) := by
  have h : (some (-1) : Option (Int32)) = some z := h
  refine g_iconst (v := (-1)) X dL_into_45 (by decide) rfl ?_
  refine g_goto (tgt := 68) X dL_into_46 (by decide) ?_
  cases Option.some.inj h
  exact hret _ _ dL_into_68 rfl
set_option maxHeartbeats 4000000 in
set_option maxRecDepth 100000 in
theorem c_L_into (l : Launch) (D : va_G) (cA : ClassId) (a_q0 : Nat)  (n_q0 : Nat) (c_q0 : A32) (v1 : Int32) (z : Int32) (h : f_L_into n_q0 c_q0 v1 = some z) : CtI l yL_into wsL_into rm_L_into D cA [.ref a_q0, .int v1] (w_L_into cA a_q0 n_q0 c_q0) z (w_L_into cA a_q0 n_q0 c_q0) := by
  refine ct_I (maxL := 4) (ty := .int) (cc := cL_into) (by decide) rfl (Nat.le_of_ble_eq_true rfl) rfl (fun p e s m args below meth c A Q X hret => ?_)
  have h : (if inB (41 + v1) n_q0 then if (c_q0 (41 + v1).toNatClampNeg) = 0 then some (-1) else if inB (1 + v1) n_q0 then Option.bind (f_L_height n_q0 c_q0 (c_q0 (1 + v1).toNatClampNeg)) fun z_2 => if inB (11 + v1) n_q0 then Option.bind (f_L_height n_q0 c_q0 (c_q0 (11 + v1).toNatClampNeg)) fun z_3 => if z_2 < 0 then f_L_into_b45 n_q0 else if z_3 < 0 then f_L_into_b45 n_q0 else if z_2 = z_3 then f_L_into_b45 n_q0 else if z_3 ≤ z_2 then if inB (11 + v1) n_q0 then some (c_q0 (11 + v1).toNatClampNeg) else none else if inB (1 + v1) n_q0 then some (c_q0 (1 + v1).toNatClampNeg) else none else none else none else none : Option (Int32)) = some z := h
  refine g_aload_n X 0 rfl rfl dL_into_0 rfl ?_
  refine g_bipush (v := 41) X dL_into_1 (by decide) rfl ?_
  refine g_iload_n X 1 rfl rfl dL_into_3 rfl ?_
  refine g_iadd X dL_into_4 rfl ?_
  refine g_iald X 0 rfl dL_into_5 rfl h (fun h => ?_)
  refine g_if_ne (tgt := 11) X dL_into_6 (by decide) rfl h (fun c_1 h => ?_) (fun c_1 h => ?_)
  · refine g_aload_n X 0 rfl rfl dL_into_11 rfl ?_
    refine g_aload_n X 0 rfl rfl dL_into_12 rfl ?_
    refine g_iconst (v := 1) X dL_into_13 (by decide) rfl ?_
    refine g_iload_n X 1 rfl rfl dL_into_14 rfl ?_
    refine g_iadd X dL_into_15 rfl ?_
    refine g_iald X 0 rfl dL_into_16 rfl h (fun h => ?_)
    obtain ⟨z_2, hz_2, h⟩ := bnd_s h
    refine g_callSI (rm := rm_L_height) (As := [.ref a_q0, .int (c_q0 (1 + v1).toNatClampNeg)]) (r := z_2) (W0 := (w_L_height cA a_q0 n_q0 c_q0)) (W1 := (w_L_height cA a_q0 n_q0 c_q0)) (isC := [0]) (isR := []) (perm := [0]) (ws' := (w_L_into cA a_q0 n_q0 c_q0)) X (c_L_height l D cA a_q0 n_q0 c_q0 (c_q0 (1 + v1).toNatClampNeg) _ hz_2) gL_into_L_height rfl rfl rfl hd_L_height ⟨Nat.le_of_ble_eq_true rfl, Nat.le_of_ble_eq_true rfl⟩ rfl rfl (Nat.le_of_ble_eq_true rfl) rfl (by decide +kernel) rfl (by decide +kernel) (by decide +kernel) (by decide) rfl (by decide +kernel) dL_into_17 rfl ?_
    refine g_istore_n (lv' := [(2, .int z_2), (0, .ref a_q0), (1, .int v1)]) X rfl (by decide) rfl dL_into_20 rfl ?_
    refine g_aload_n X 1 rfl rfl dL_into_21 rfl ?_
    refine g_aload_n X 1 rfl rfl dL_into_22 rfl ?_
    refine g_bipush (v := 11) X dL_into_23 (by decide) rfl ?_
    refine g_iload_n X 2 rfl rfl dL_into_25 rfl ?_
    refine g_iadd X dL_into_26 rfl ?_
    refine g_iald X 0 rfl dL_into_27 rfl h (fun h => ?_)
    obtain ⟨z_3, hz_3, h⟩ := bnd_s h
    refine g_callSI (rm := rm_L_height) (As := [.ref a_q0, .int (c_q0 (11 + v1).toNatClampNeg)]) (r := z_3) (W0 := (w_L_height cA a_q0 n_q0 c_q0)) (W1 := (w_L_height cA a_q0 n_q0 c_q0)) (isC := [0]) (isR := []) (perm := [0]) (ws' := (w_L_into cA a_q0 n_q0 c_q0)) X (c_L_height l D cA a_q0 n_q0 c_q0 (c_q0 (11 + v1).toNatClampNeg) _ hz_3) gL_into_L_height rfl rfl rfl hd_L_height ⟨Nat.le_of_ble_eq_true rfl, Nat.le_of_ble_eq_true rfl⟩ rfl rfl (Nat.le_of_ble_eq_true rfl) rfl (by decide +kernel) rfl (by decide +kernel) (by decide +kernel) (by decide) rfl (by decide +kernel) dL_into_28 rfl ?_
    refine g_istore_n (lv' := [(3, .int z_3), (2, .int z_2), (0, .ref a_q0), (1, .int v1)]) X rfl (by decide) rfl dL_into_31 rfl ?_
    refine g_iload_n X 1 rfl rfl dL_into_32 rfl ?_
    refine g_if_lt (tgt := 45) X dL_into_33 (by decide) rfl h (fun c_4 h => ?_) (fun c_4 h => ?_)
    · refine g_lvs [] rfl ?_
      exact t_L_into_b45 X hret h
    · refine g_iload_n X 0 rfl rfl dL_into_36 rfl ?_
      refine g_if_lt (tgt := 45) X dL_into_37 (by decide) rfl h (fun c_5 h => ?_) (fun c_5 h => ?_)
      · refine g_lvs [] rfl ?_
        exact t_L_into_b45 X hret h
      · refine g_iload_n X 1 rfl rfl dL_into_40 rfl ?_
        refine g_iload_n X 0 rfl rfl dL_into_41 rfl ?_
        refine g_icmp_ne (tgt := 49) X dL_into_42 (by decide) rfl h (fun c_6 h => ?_) (fun c_6 h => ?_)
        · refine g_iload_n X 1 rfl rfl dL_into_49 rfl ?_
          refine g_iload_n X 0 rfl rfl dL_into_50 rfl ?_
          refine g_icmp_ge (tgt := 62) X dL_into_51 (by decide) rfl h (fun c_7 h => ?_) (fun c_7 h => ?_)
          · refine g_aload_n X 2 rfl rfl dL_into_62 rfl ?_
            refine g_bipush (v := 11) X dL_into_63 (by decide) rfl ?_
            refine g_iload_n X 3 rfl rfl dL_into_65 rfl ?_
            refine g_iadd X dL_into_66 rfl ?_
            refine g_iald X 0 rfl dL_into_67 rfl h (fun h => ?_)
            cases Option.some.inj h
            exact hret _ _ dL_into_68 rfl
          · refine g_aload_n X 2 rfl rfl dL_into_54 rfl ?_
            refine g_iconst (v := 1) X dL_into_55 (by decide) rfl ?_
            refine g_iload_n X 3 rfl rfl dL_into_56 rfl ?_
            refine g_iadd X dL_into_57 rfl ?_
            refine g_iald X 0 rfl dL_into_58 rfl h (fun h => ?_)
            refine g_goto (tgt := 68) X dL_into_59 (by decide) ?_
            cases Option.some.inj h
            exact hret _ _ dL_into_68 rfl
        · refine g_lvs [] rfl ?_
          exact t_L_into_b45 X hret h
  · refine g_iconst (v := (-1)) X dL_into_9 (by decide) rfl ?_
    cases Option.some.inj h
    exact hret _ _ dL_into_10 rfl
abbrev rm_L_other : Room := { frames := 0, cells := 0, slots := 0, locals := 0 }
theorem hd_L_other : yL_other.cls ≠ "java/lang/invoke/MethodHandle" ∧ yL_other.cls ≠ "java/lang/invoke/VarHandle" ∧ (parseMethodDescriptor yL_other.desc).map (fun d => d.parameters.length) = some 3 := by decide +kernel
abbrev w_L_other (cA : ClassId) (a_q0 : Nat) (n_q0 : Nat) (c_q0 : A32) : va_W := [(a_q0, .inl (cA, n_q0, .inl c_q0))]
set_option maxHeartbeats 4000000 in
set_option maxRecDepth 100000 in
theorem c_L_other (l : Launch) (D : va_G) (cA : ClassId) (a_q0 : Nat)  (n_q0 : Nat) (c_q0 : A32) (v1 : Int32) (v2 : Int32) (z : Int32) (h : f_L_other n_q0 c_q0 v1 v2 = some z) : CtI l yL_other wsL_other rm_L_other D cA [.ref a_q0, .int v1, .int v2] (w_L_other cA a_q0 n_q0 c_q0) z (w_L_other cA a_q0 n_q0 c_q0) := by
  refine ct_I (maxL := 3) (ty := .int) (cc := cL_other) (by decide) rfl (Nat.le_of_ble_eq_true rfl) rfl (fun p e s m args below meth c A Q X hret => ?_)
  have h : (if inB (1 + v1) n_q0 then if (c_q0 (1 + v1).toNatClampNeg) = v2 then if inB (11 + v1) n_q0 then some (c_q0 (11 + v1).toNatClampNeg) else none else if inB (1 + v1) n_q0 then some (c_q0 (1 + v1).toNatClampNeg) else none else none : Option (Int32)) = some z := h
  refine g_aload_n X 0 rfl rfl dL_other_0 rfl ?_
  refine g_iconst (v := 1) X dL_other_1 (by decide) rfl ?_
  refine g_iload_n X 1 rfl rfl dL_other_2 rfl ?_
  refine g_iadd X dL_other_3 rfl ?_
  refine g_iald X 0 rfl dL_other_4 rfl h (fun h => ?_)
  refine g_iload_n X 2 rfl rfl dL_other_5 rfl ?_
  refine g_icmp_ne (tgt := 18) X dL_other_6 (by decide) rfl h (fun c_1 h => ?_) (fun c_1 h => ?_)
  · refine g_aload_n X 0 rfl rfl dL_other_18 rfl ?_
    refine g_iconst (v := 1) X dL_other_19 (by decide) rfl ?_
    refine g_iload_n X 1 rfl rfl dL_other_20 rfl ?_
    refine g_iadd X dL_other_21 rfl ?_
    refine g_iald X 0 rfl dL_other_22 rfl h (fun h => ?_)
    cases Option.some.inj h
    exact hret _ _ dL_other_23 rfl
  · refine g_aload_n X 0 rfl rfl dL_other_9 rfl ?_
    refine g_bipush (v := 11) X dL_other_10 (by decide) rfl ?_
    refine g_iload_n X 1 rfl rfl dL_other_12 rfl ?_
    refine g_iadd X dL_other_13 rfl ?_
    refine g_iald X 0 rfl dL_other_14 rfl h (fun h => ?_)
    refine g_goto (tgt := 23) X dL_other_15 (by decide) ?_
    cases Option.some.inj h
    exact hret _ _ dL_other_23 rfl
abbrev rm_L_air : Room := { frames := 3, cells := 1, slots := 10, locals := 71 }
theorem hd_L_air : yL_air.cls ≠ "java/lang/invoke/MethodHandle" ∧ yL_air.cls ≠ "java/lang/invoke/VarHandle" ∧ (parseMethodDescriptor yL_air.desc).map (fun d => d.parameters.length) = some 1 := by decide +kernel
abbrev w_L_air_n2 (cA : ClassId) (a_q0 a_n2 : Nat) (n_q0 : Nat) (c_q0 : A32) (c_n2 : A32) : va_W := [(a_q0, .inl (cA, n_q0, .inl c_q0)), (a_n2, .inl (cA, 10, .inl c_n2))]
abbrev w_L_air (cA : ClassId) (a_q0 : Nat) (n_q0 : Nat) (c_q0 : A32) : va_W := [(a_q0, .inl (cA, n_q0, .inl c_q0))]
set_option maxHeartbeats 4000000 in
set_option maxRecDepth 100000 in
theorem t_L_air_b31 {l : Launch} {D : va_G} {cA : ClassId} {p : Program} {e : Env} {s : State} {m : MethodId} {args : Array Value} {below : List Frame} {meth : Method} {c : Code} {A : Nat → Prop} {Q : State → Prop} {z : A32} {a_q0 a_n2 : Nat}   {n_q0 : Nat} {c_q0 : A32} {c_n2 : A32} {t1 : Int32} {t2 : Int32} {v2 : Int32} {k7 : A32 → Int32 → Option (A32)} (X : GX p s m args c cL_air RL wsL_air D cA A 3) (hret : RtA p l e rm_L_air s m args below meth c cL_air D A 3 1 10 Q (fun a => (w_L_air_n2 cA a_q0 a n_q0 c_q0 z))) (hk7 : ∀ (c_n2 : A32) (v2 : Int32), k7 c_n2 v2 = some z → G p l e rm_L_air s m args below meth c D A 3 1 10 Q 7 [(0, .ref a_q0), (1, .ref a_n2), (2, .int v2)] [] (w_L_air_n2 cA a_q0 a_n2 n_q0 c_q0 c_n2)) (h : f_L_air_b31 k7 n_q0 c_q0 c_n2 t1 t2 v2 = some z) : G p l e rm_L_air s m args below meth c D A 3 1 10 Q 31 [(0, .ref a_q0), (1, .ref a_n2), (2, .int v2)] [.int t2, .int t1, .ref a_n2] (w_L_air_n2 cA a_q0 a_n2 n_q0 c_q0 c_n2) := by
  have h : (if inB t1 10 then nam (v2 + 1) fun v2_1 => k7 (upd c_n2 (Int32.toNatClampNeg t1) t2) v2_1 else none : Option (A32)) = some z := h
  refine g_iast (ws' := (w_L_air_n2 cA a_q0 a_n2 n_q0 c_q0 (upd c_n2 (Int32.toNatClampNeg t1) t2))) X 1 rfl rfl dL_air_31 rfl h (fun h => ?_)
  obtain ⟨v2_1, ev2_1, h⟩ := nam_s h
  refine g_iinc (v := v2_1) (lv' := [(2, .int v2_1), (0, .ref a_q0), (1, .ref a_n2)]) X 2 rfl (by rw [ev2_1]; rfl) (by decide) rfl dL_air_32 rfl ?_
  refine g_goto (tgt := 7) X dL_air_35 (by decide) ?_
  refine g_lvs [1, 2, 0] rfl ?_
  exact hk7 _ _ h
set_option maxHeartbeats 4000000 in
set_option maxRecDepth 100000 in
theorem t_L_air_b7 {l : Launch} {D : va_G} {cA : ClassId} {p : Program} {e : Env} {s : State} {m : MethodId} {args : Array Value} {below : List Frame} {meth : Method} {c : Code} {A : Nat → Prop} {Q : State → Prop} {z : A32} {a_q0 a_n2 : Nat}   {n_q0 : Nat} {c_q0 : A32}  (X : GX p s m args c cL_air RL wsL_air D cA A 3) (hret : RtA p l e rm_L_air s m args below meth c cL_air D A 3 1 10 Q (fun a => (w_L_air_n2 cA a_q0 a n_q0 c_q0 z)))  : ∀ (fu : Nat) (c_n2 : A32) (v2 : Int32), f_L_air_b7 n_q0 c_q0 fu c_n2 v2 = some z → G p l e rm_L_air s m args below meth c D A 3 1 10 Q 7 [(0, .ref a_q0), (1, .ref a_n2), (2, .int v2)] [] (w_L_air_n2 cA a_q0 a_n2 n_q0 c_q0 c_n2) := by
  intro fu
  induction fu with
  | zero => intro c_n2 v2 h; exact absurd (show (none : Option (A32)) = some z from h) (by simp)
  | succ fu ih =>
    intro c_n2 v2 h
    have h : (if 10 ≤ v2 then some c_n2 else if inB 0 n_q0 then if (c_q0 (Int32.toNatClampNeg 0)) ≤ v2 then f_L_air_b31 (f_L_air_b7 n_q0 c_q0 fu) n_q0 c_q0 c_n2 v2 (-1) v2 else Option.bind (f_L_into n_q0 c_q0 v2) fun z_3 => f_L_air_b31 (f_L_air_b7 n_q0 c_q0 fu) n_q0 c_q0 c_n2 v2 z_3 v2 else none : Option (A32)) = some z := h
    refine g_iload_n X 2 rfl rfl dL_air_7 rfl ?_
    refine g_bipush (v := 10) X dL_air_8 (by decide) rfl ?_
    refine g_icmp_ge (tgt := 38) X dL_air_10 (by decide) rfl h (fun c_1 h => ?_) (fun c_1 h => ?_)
    · refine g_aload_n X 1 rfl rfl dL_air_38 rfl ?_
      cases Option.some.inj h
      exact hret _ _ _ dL_air_39
    · refine g_aload_n X 1 rfl rfl dL_air_13 rfl ?_
      refine g_iload_n X 2 rfl rfl dL_air_14 rfl ?_
      refine g_iload_n X 2 rfl rfl dL_air_15 rfl ?_
      refine g_aload_n X 0 rfl rfl dL_air_16 rfl ?_
      refine g_iconst (v := 0) X dL_air_17 (by decide) rfl ?_
      refine g_iald X 0 rfl dL_air_18 rfl h (fun h => ?_)
      refine g_icmp_ge (tgt := 30) X dL_air_19 (by decide) rfl h (fun c_2 h => ?_) (fun c_2 h => ?_)
      · refine g_iconst (v := (-1)) X dL_air_30 (by decide) rfl ?_
        exact t_L_air_b31 X hret ih h
      · refine g_aload_n X 0 rfl rfl dL_air_22 rfl ?_
        refine g_iload_n X 2 rfl rfl dL_air_23 rfl ?_
        obtain ⟨z_3, hz_3, h⟩ := bnd_s h
        refine g_callSI (rm := rm_L_into) (As := [.ref a_q0, .int v2]) (r := z_3) (W0 := (w_L_into cA a_q0 n_q0 c_q0)) (W1 := (w_L_into cA a_q0 n_q0 c_q0)) (isC := [0]) (isR := [1]) (perm := [1, 0]) (ws' := (w_L_air_n2 cA a_q0 a_n2 n_q0 c_q0 c_n2)) X (c_L_into l D cA a_q0 n_q0 c_q0 v2 _ hz_3) gL_air_L_into rfl rfl rfl hd_L_into ⟨Nat.le_of_ble_eq_true rfl, Nat.le_of_ble_eq_true rfl⟩ rfl rfl (Nat.le_of_ble_eq_true rfl) rfl (by decide +kernel) rfl (by decide +kernel) (by decide +kernel) (by decide) rfl (by decide +kernel) dL_air_24 rfl ?_
        refine g_goto (tgt := 31) X dL_air_27 (by decide) ?_
        exact t_L_air_b31 X hret ih h
set_option maxHeartbeats 4000000 in
set_option maxRecDepth 100000 in
theorem c_L_air (l : Launch) (D : va_G) (cA : ClassId) (a_q0 : Nat)  (n_q0 : Nat) (c_q0 : A32) (z : A32) (h : f_L_air n_q0 c_q0 = some z) : CtA l yL_air wsL_air rm_L_air D cA [.ref a_q0] (w_L_air cA a_q0 n_q0 c_q0) (fun a => (w_L_air_n2 cA a_q0 a n_q0 c_q0 z)) 1 10 := by
  refine ct_A (maxL := 3) (cc := cL_air) (by decide) rfl (Nat.le_of_ble_eq_true rfl) rfl (fun p e s m args below meth c A Q X hret => ?_)
  have h : (f_L_air_b7 n_q0 c_q0 FU (fun _ => 0) 0 : Option (A32)) = some z := h
  refine g_bipush (v := 10) X dL_air_0 (by decide) rfl ?_
  refine g_newa X (N := 10) (by decide +kernel) (by decide) (by decide) (by decide) (by decide) (by decide) dL_air_2 rfl (fun a_n2 => ?_)
  refine g_wseq (ws' := (w_L_air_n2 cA a_q0 a_n2 n_q0 c_q0 (fun _ => 0))) rfl ?_
  refine g_wid (k := 1) (n := 10) (by decide) (by decide) ?_
  refine g_astore_n (lv' := [(1, .ref a_n2), (0, .ref a_q0)]) X rfl (by decide) rfl dL_air_4 rfl ?_
  refine g_iconst (v := 0) X dL_air_5 (by decide) rfl ?_
  refine g_istore_n (lv' := [(2, .int 0), (1, .ref a_n2), (0, .ref a_q0)]) X rfl (by decide) rfl dL_air_6 rfl ?_
  refine g_lvs [2, 1, 0] rfl ?_
  exact t_L_air_b7 X hret _ _ _ h
abbrev rm_L_breathes : Room := { frames := 0, cells := 0, slots := 0, locals := 0 }
theorem hd_L_breathes : yL_breathes.cls ≠ "java/lang/invoke/MethodHandle" ∧ yL_breathes.cls ≠ "java/lang/invoke/VarHandle" ∧ (parseMethodDescriptor yL_breathes.desc).map (fun d => d.parameters.length) = some 3 := by decide +kernel
abbrev w_L_breathes (cA : ClassId) (a_q0 a_q1 : Nat) (n_q0 : Nat) (n_q1 : Nat) (c_q0 : A32) (c_q1 : A32) : va_W := [(a_q0, .inl (cA, n_q0, .inl c_q0)), (a_q1, .inl (cA, n_q1, .inl c_q1))]
set_option maxHeartbeats 4000000 in
set_option maxRecDepth 100000 in
theorem t_L_breathes_b36 {l : Launch} {D : va_G} {cA : ClassId} {p : Program} {e : Env} {s : State} {m : MethodId} {args : Array Value} {below : List Frame} {meth : Method} {c : Code} {A : Nat → Prop} {Q : State → Prop} {z : Int32} {a_q0 a_q1 : Nat}   {n_q0 : Nat} {n_q1 : Nat} {c_q0 : A32} {c_q1 : A32} {v2 : Int32} {v3 : Int32} {k2 : Int32 → Option (Int32)} (X : GX p s m args c cL_breathes RL wsL_breathes D cA A 4) (hret : RtI p l e rm_L_breathes s m args below meth c cL_breathes D A 4 0 0 Q .boolean z (w_L_breathes cA a_q0 a_q1 n_q0 n_q1 c_q0 c_q1)) (hk2 : ∀ (v3 : Int32), k2 v3 = some z → G p l e rm_L_breathes s m args below meth c D A 4 0 0 Q 2 [(0, .ref a_q0), (1, .ref a_q1), (2, .int v2), (3, .int v3)] [] (w_L_breathes cA a_q0 a_q1 n_q0 n_q1 c_q0 c_q1)) (h : f_L_breathes_b36 k2 n_q0 n_q1 c_q0 c_q1 v2 v3 = some z) : G p l e rm_L_breathes s m args below meth c D A 4 0 0 Q 36 [(0, .ref a_q0), (1, .ref a_q1), (2, .int v2), (3, .int v3)] [] (w_L_breathes cA a_q0 a_q1 n_q0 n_q1 c_q0 c_q1) := by
  have h : (nam (v3 + 1) fun v3_1 => k2 v3_1 : Option (Int32)) = some z := h
  obtain ⟨v3_1, ev3_1, h⟩ := nam_s h
  refine g_iinc (v := v3_1) (lv' := [(3, .int v3_1), (0, .ref a_q0), (1, .ref a_q1), (2, .int v2)]) X 3 rfl (by rw [ev3_1]; rfl) (by decide) rfl dL_breathes_36 rfl ?_
  refine g_goto (tgt := 2) X dL_breathes_39 (by decide) ?_
  refine g_lvs [1, 2, 3, 0] rfl ?_
  exact hk2 _ h
set_option maxHeartbeats 4000000 in
set_option maxRecDepth 100000 in
theorem t_L_breathes_b2 {l : Launch} {D : va_G} {cA : ClassId} {p : Program} {e : Env} {s : State} {m : MethodId} {args : Array Value} {below : List Frame} {meth : Method} {c : Code} {A : Nat → Prop} {Q : State → Prop} {z : Int32} {a_q0 a_q1 : Nat}   {n_q0 : Nat} {n_q1 : Nat} {c_q0 : A32} {c_q1 : A32} {v2 : Int32}  (X : GX p s m args c cL_breathes RL wsL_breathes D cA A 4) (hret : RtI p l e rm_L_breathes s m args below meth c cL_breathes D A 4 0 0 Q .boolean z (w_L_breathes cA a_q0 a_q1 n_q0 n_q1 c_q0 c_q1))  : ∀ (fu : Nat) (v3 : Int32), f_L_breathes_b2 n_q0 n_q1 c_q0 c_q1 v2 fu v3 = some z → G p l e rm_L_breathes s m args below meth c D A 4 0 0 Q 2 [(0, .ref a_q0), (1, .ref a_q1), (2, .int v2), (3, .int v3)] [] (w_L_breathes cA a_q0 a_q1 n_q0 n_q1 c_q0 c_q1) := by
  intro fu
  induction fu with
  | zero => intro v3 h; exact absurd (show (none : Option (Int32)) = some z from h) (by simp)
  | succ fu ih =>
    intro v3 h
    have h : (if inB 0 n_q0 then if (c_q0 (Int32.toNatClampNeg 0)) ≤ v3 then some 0 else if inB v3 n_q1 then if (c_q1 v3.toNatClampNeg) < 0 then f_L_breathes_b36 (f_L_breathes_b2 n_q0 n_q1 c_q0 c_q1 v2 fu) n_q0 n_q1 c_q0 c_q1 v2 v3 else if inB (1 + v3) n_q0 then if (c_q0 (1 + v3).toNatClampNeg) = v2 then some 1 else if inB (11 + v3) n_q0 then if (c_q0 (11 + v3).toNatClampNeg) = v2 then some 1 else f_L_breathes_b36 (f_L_breathes_b2 n_q0 n_q1 c_q0 c_q1 v2 fu) n_q0 n_q1 c_q0 c_q1 v2 v3 else none else none else none else none : Option (Int32)) = some z := h
    refine g_iload_n X 3 rfl rfl dL_breathes_2 rfl ?_
    refine g_aload_n X 0 rfl rfl dL_breathes_3 rfl ?_
    refine g_iconst (v := 0) X dL_breathes_4 (by decide) rfl ?_
    refine g_iald X 0 rfl dL_breathes_5 rfl h (fun h => ?_)
    refine g_icmp_ge (tgt := 42) X dL_breathes_6 (by decide) rfl h (fun c_1 h => ?_) (fun c_1 h => ?_)
    · refine g_iconst (v := 0) X dL_breathes_42 (by decide) rfl ?_
      cases Option.some.inj h
      exact hret _ _ dL_breathes_43 (nar_z (Or.inl rfl))
    · refine g_aload_n X 1 rfl rfl dL_breathes_9 rfl ?_
      refine g_iload_n X 3 rfl rfl dL_breathes_10 rfl ?_
      refine g_iald X 1 rfl dL_breathes_11 rfl h (fun h => ?_)
      refine g_if_lt (tgt := 36) X dL_breathes_12 (by decide) rfl h (fun c_2 h => ?_) (fun c_2 h => ?_)
      · exact t_L_breathes_b36 X hret ih h
      · refine g_aload_n X 0 rfl rfl dL_breathes_15 rfl ?_
        refine g_iconst (v := 1) X dL_breathes_16 (by decide) rfl ?_
        refine g_iload_n X 3 rfl rfl dL_breathes_17 rfl ?_
        refine g_iadd X dL_breathes_18 rfl ?_
        refine g_iald X 0 rfl dL_breathes_19 rfl h (fun h => ?_)
        refine g_iload_n X 2 rfl rfl dL_breathes_20 rfl ?_
        refine g_icmp_eq (tgt := 34) X dL_breathes_21 (by decide) rfl h (fun c_3 h => ?_) (fun c_3 h => ?_)
        · refine g_iconst (v := 1) X dL_breathes_34 (by decide) rfl ?_
          cases Option.some.inj h
          exact hret _ _ dL_breathes_35 (nar_z (Or.inr rfl))
        · refine g_aload_n X 0 rfl rfl dL_breathes_24 rfl ?_
          refine g_bipush (v := 11) X dL_breathes_25 (by decide) rfl ?_
          refine g_iload_n X 3 rfl rfl dL_breathes_27 rfl ?_
          refine g_iadd X dL_breathes_28 rfl ?_
          refine g_iald X 0 rfl dL_breathes_29 rfl h (fun h => ?_)
          refine g_iload_n X 2 rfl rfl dL_breathes_30 rfl ?_
          refine g_icmp_ne (tgt := 36) X dL_breathes_31 (by decide) rfl h (fun c_4 h => ?_) (fun c_4 h => ?_)
          · exact t_L_breathes_b36 X hret ih h
          · refine g_iconst (v := 1) X dL_breathes_34 (by decide) rfl ?_
            cases Option.some.inj h
            exact hret _ _ dL_breathes_35 (nar_z (Or.inr rfl))
set_option maxHeartbeats 4000000 in
set_option maxRecDepth 100000 in
theorem c_L_breathes (l : Launch) (D : va_G) (cA : ClassId) (a_q0 a_q1 : Nat)  (n_q0 : Nat) (n_q1 : Nat) (c_q0 : A32) (c_q1 : A32) (v2 : Int32) (z : Int32) (h : f_L_breathes n_q0 n_q1 c_q0 c_q1 v2 = some z) : CtI l yL_breathes wsL_breathes rm_L_breathes D cA [.ref a_q0, .ref a_q1, .int v2] (w_L_breathes cA a_q0 a_q1 n_q0 n_q1 c_q0 c_q1) z (w_L_breathes cA a_q0 a_q1 n_q0 n_q1 c_q0 c_q1) := by
  refine ct_I (maxL := 4) (ty := .boolean) (cc := cL_breathes) (by decide) rfl (Nat.le_of_ble_eq_true rfl) rfl (fun p e s m args below meth c A Q X hret => ?_)
  have h : (f_L_breathes_b2 n_q0 n_q1 c_q0 c_q1 v2 FU 0 : Option (Int32)) = some z := h
  refine g_iconst (v := 0) X dL_breathes_0 (by decide) rfl ?_
  refine g_istore_n (lv' := [(3, .int 0), (0, .ref a_q0), (1, .ref a_q1), (2, .int v2)]) X rfl (by decide) rfl dL_breathes_1 rfl ?_
  refine g_lvs [1, 2, 3, 0] rfl ?_
  exact t_L_breathes_b2 X hret _ _ h
abbrev rm_L_bears : Room := { frames := 0, cells := 0, slots := 0, locals := 0 }
theorem hd_L_bears : yL_bears.cls ≠ "java/lang/invoke/MethodHandle" ∧ yL_bears.cls ≠ "java/lang/invoke/VarHandle" ∧ (parseMethodDescriptor yL_bears.desc).map (fun d => d.parameters.length) = some 1 := by decide +kernel
set_option maxHeartbeats 4000000 in
set_option maxRecDepth 100000 in
theorem c_L_bears (l : Launch) (D : va_G) (cA : ClassId)  (v0 : Int32) (z : Int32) (h : f_L_bears v0 = some z) : CtI l yL_bears wsL_bears rm_L_bears D cA [.int v0] [] z [] := by
  refine ct_I (maxL := 1) (ty := .int) (cc := cL_bears) (by decide) rfl (Nat.le_of_ble_eq_true rfl) rfl (fun p e s m args below meth c A Q X hret => ?_)
  have h : (if v0 = 2 then some 1 else if v0 = 3 then some 2 else if v0 = 4 then some 6 else some 4 : Option (Int32)) = some z := h
  refine g_iload_n X 0 rfl rfl dL_bears_0 rfl ?_
  refine g_iconst (v := 2) X dL_bears_1 (by decide) rfl ?_
  refine g_icmp_ne (tgt := 9) X dL_bears_2 (by decide) rfl h (fun c_1 h => ?_) (fun c_1 h => ?_)
  · refine g_iload_n X 0 rfl rfl dL_bears_9 rfl ?_
    refine g_iconst (v := 3) X dL_bears_10 (by decide) rfl ?_
    refine g_icmp_ne (tgt := 18) X dL_bears_11 (by decide) rfl h (fun c_2 h => ?_) (fun c_2 h => ?_)
    · refine g_iload_n X 0 rfl rfl dL_bears_18 rfl ?_
      refine g_iconst (v := 4) X dL_bears_19 (by decide) rfl ?_
      refine g_icmp_ne (tgt := 28) X dL_bears_20 (by decide) rfl h (fun c_3 h => ?_) (fun c_3 h => ?_)
      · refine g_iconst (v := 4) X dL_bears_28 (by decide) rfl ?_
        cases Option.some.inj h
        exact hret _ _ dL_bears_29 rfl
      · refine g_bipush (v := 6) X dL_bears_23 (by decide) rfl ?_
        refine g_goto (tgt := 29) X dL_bears_25 (by decide) ?_
        cases Option.some.inj h
        exact hret _ _ dL_bears_29 rfl
    · refine g_iconst (v := 2) X dL_bears_14 (by decide) rfl ?_
      refine g_goto (tgt := 29) X dL_bears_15 (by decide) ?_
      cases Option.some.inj h
      exact hret _ _ dL_bears_29 rfl
  · refine g_iconst (v := 1) X dL_bears_5 (by decide) rfl ?_
    refine g_goto (tgt := 29) X dL_bears_6 (by decide) ?_
    cases Option.some.inj h
    exact hret _ _ dL_bears_29 rfl
abbrev rm_L_minute : Room := { frames := 1, cells := 0, slots := 0, locals := 23 }
theorem hd_L_minute : yL_minute.cls ≠ "java/lang/invoke/MethodHandle" ∧ yL_minute.cls ≠ "java/lang/invoke/VarHandle" ∧ (parseMethodDescriptor yL_minute.desc).map (fun d => d.parameters.length) = some 3 := by decide +kernel
abbrev w_L_minute (cA : ClassId) (a_q0 a_q1 a_q2 : Nat) (n_q0 : Nat) (n_q1 : Nat) (n_q2 : Nat) (c_q0 : A32) (c_q1 : A32) (c_q2 : A32) : va_W := [(a_q0, .inl (cA, n_q0, .inl c_q0)), (a_q1, .inl (cA, n_q1, .inl c_q1)), (a_q2, .inl (cA, n_q2, .inl c_q2))]
set_option maxHeartbeats 4000000 in
set_option maxRecDepth 100000 in
theorem t_L_minute_b41 {l : Launch} {D : va_G} {cA : ClassId} {p : Program} {e : Env} {s : State} {m : MethodId} {args : Array Value} {below : List Frame} {meth : Method} {c : Code} {A : Nat → Prop} {Q : State → Prop} {z : Int32 × A32} {a_q0 a_q1 a_q2 : Nat}   {n_q0 : Nat} {n_q1 : Nat} {n_q2 : Nat} {c_q0 : A32} {c_q1 : A32} {c_q2 : A32} {t1 : Int32} {t2 : Int32} {v3 : Int32} {k2 : A32 → Int32 → Option (Int32 × A32)} (X : GX p s m args c cL_minute RL wsL_minute D cA A 5) (hret : RtI p l e rm_L_minute s m args below meth c cL_minute D A 5 0 0 Q .int z.1 (w_L_minute cA a_q0 a_q1 a_q2 n_q0 n_q1 n_q2 c_q0 c_q1 z.2)) (hk2 : ∀ (c_q2 : A32) (v3 : Int32), k2 c_q2 v3 = some z → G p l e rm_L_minute s m args below meth c D A 5 0 0 Q 2 [(0, .ref a_q0), (1, .ref a_q1), (2, .ref a_q2), (3, .int v3)] [] (w_L_minute cA a_q0 a_q1 a_q2 n_q0 n_q1 n_q2 c_q0 c_q1 c_q2)) (h : f_L_minute_b41 k2 n_q0 n_q1 n_q2 c_q0 c_q1 c_q2 t1 t2 v3 = some z) : G p l e rm_L_minute s m args below meth c D A 5 0 0 Q 41 [(0, .ref a_q0), (1, .ref a_q1), (2, .ref a_q2), (3, .int v3)] [.int t2, .int t1, .ref a_q2] (w_L_minute cA a_q0 a_q1 a_q2 n_q0 n_q1 n_q2 c_q0 c_q1 c_q2) := by
  have h : (if inB t1 n_q2 then nam (v3 + 1) fun v3_1 => k2 (upd c_q2 (Int32.toNatClampNeg t1) t2) v3_1 else none : Option (Int32 × A32)) = some z := h
  refine g_iast (ws' := (w_L_minute cA a_q0 a_q1 a_q2 n_q0 n_q1 n_q2 c_q0 c_q1 (upd c_q2 (Int32.toNatClampNeg t1) t2))) X 2 rfl rfl dL_minute_41 rfl h (fun h => ?_)
  obtain ⟨v3_1, ev3_1, h⟩ := nam_s h
  refine g_iinc (v := v3_1) (lv' := [(3, .int v3_1), (0, .ref a_q0), (1, .ref a_q1), (2, .ref a_q2)]) X 3 rfl (by rw [ev3_1]; rfl) (by decide) rfl dL_minute_42 rfl ?_
  refine g_goto (tgt := 2) X dL_minute_45 (by decide) ?_
  refine g_lvs [1, 2, 3, 0] rfl ?_
  exact hk2 _ _ h
set_option maxHeartbeats 4000000 in
set_option maxRecDepth 100000 in
theorem t_L_minute_b114 {l : Launch} {D : va_G} {cA : ClassId} {p : Program} {e : Env} {s : State} {m : MethodId} {args : Array Value} {below : List Frame} {meth : Method} {c : Code} {A : Nat → Prop} {Q : State → Prop} {z : Int32 × A32} {a_q0 a_q1 a_q2 : Nat}  {c_q0 : A32} {c_q1 : A32} {n_q0 : Nat} {n_q1 : Nat} {n_q2 : Nat} {c_q2 : A32} {v3 : Int32} {v4 : Int32} {k53 : A32 → Int32 → Int32 → Option (Int32 × A32)} (X : GX p s m args c cL_minute RL wsL_minute D cA A 5) (hret : RtI p l e rm_L_minute s m args below meth c cL_minute D A 5 0 0 Q .int z.1 (w_L_minute cA a_q0 a_q1 a_q2 n_q0 n_q1 n_q2 c_q0 c_q1 z.2)) (hk53 : ∀ (c_q2 : A32) (v3 : Int32) (v4 : Int32), k53 c_q2 v3 v4 = some z → G p l e rm_L_minute s m args below meth c D A 5 0 0 Q 53 [(2, .ref a_q2), (3, .int v3), (4, .int v4)] [] (w_L_minute cA a_q0 a_q1 a_q2 n_q0 n_q1 n_q2 c_q0 c_q1 c_q2)) (h : f_L_minute_b114 k53 n_q0 n_q1 n_q2 c_q2 v3 v4 = some z) : G p l e rm_L_minute s m args below meth c D A 5 0 0 Q 114 [(2, .ref a_q2), (3, .int v3), (4, .int v4)] [] (w_L_minute cA a_q0 a_q1 a_q2 n_q0 n_q1 n_q2 c_q0 c_q1 c_q2) := by
  have h : (nam (v4 + 1) fun v4_1 => k53 c_q2 v3 v4_1 : Option (Int32 × A32)) = some z := h
  obtain ⟨v4_1, ev4_1, h⟩ := nam_s h
  refine g_iinc (v := v4_1) (lv' := [(4, .int v4_1), (2, .ref a_q2), (3, .int v3)]) X 2 rfl (by rw [ev4_1]; rfl) (by decide) rfl dL_minute_114 rfl ?_
  refine g_goto (tgt := 53) X dL_minute_117 (by decide) ?_
  refine g_lvs [1, 2, 0] rfl ?_
  exact hk53 _ _ _ h
set_option maxHeartbeats 4000000 in
set_option maxRecDepth 100000 in
theorem t_L_minute_b53 {l : Launch} {D : va_G} {cA : ClassId} {p : Program} {e : Env} {s : State} {m : MethodId} {args : Array Value} {below : List Frame} {meth : Method} {c : Code} {A : Nat → Prop} {Q : State → Prop} {z : Int32 × A32} {a_q0 a_q1 a_q2 : Nat}  {c_q0 : A32} {c_q1 : A32} {n_q0 : Nat} {n_q1 : Nat} {n_q2 : Nat}  (X : GX p s m args c cL_minute RL wsL_minute D cA A 5) (hret : RtI p l e rm_L_minute s m args below meth c cL_minute D A 5 0 0 Q .int z.1 (w_L_minute cA a_q0 a_q1 a_q2 n_q0 n_q1 n_q2 c_q0 c_q1 z.2))  : ∀ (fu : Nat) (c_q2 : A32) (v3 : Int32) (v4 : Int32), f_L_minute_b53 n_q0 n_q1 n_q2 fu c_q2 v3 v4 = some z → G p l e rm_L_minute s m args below meth c D A 5 0 0 Q 53 [(2, .ref a_q2), (3, .int v3), (4, .int v4)] [] (w_L_minute cA a_q0 a_q1 a_q2 n_q0 n_q1 n_q2 c_q0 c_q1 c_q2) := by
  intro fu
  induction fu with
  | zero => intro c_q2 v3 v4 h; exact absurd (show (none : Option (Int32 × A32)) = some z from h) (by simp)
  | succ fu ih =>
    intro c_q2 v3 v4 h
    have h : (if inB 20 n_q2 then if (c_q2 (Int32.toNatClampNeg 20)) ≤ v4 then some (v3, c_q2) else if inB 19 n_q2 then if (((c_q2 (Int32.toNatClampNeg 19)) >>> (v4 &&& 31)) &&& 1) = 1 then f_L_minute_b114 (f_L_minute_b53 n_q0 n_q1 n_q2 fu) n_q0 n_q1 n_q2 c_q2 v3 v4 else if inB (13 + v4) n_q2 then if inB (c_q2 (13 + v4).toNatClampNeg) n_q2 then if inB (7 + v4) n_q2 then Option.bind (f_L_bears (c_q2 (7 + v4).toNatClampNeg)) fun z_3 => if z_3 < (c_q2 (c_q2 (13 + v4).toNatClampNeg).toNatClampNeg) then if inB 19 n_q2 then if inB 19 n_q2 then nam (v3 + 1) fun v3_5 => f_L_minute_b114 (f_L_minute_b53 n_q0 n_q1 n_q2 fu) n_q0 n_q1 n_q2 (upd c_q2 (Int32.toNatClampNeg 19) ((c_q2 (Int32.toNatClampNeg 19)) ||| (1 <<< (v4 &&& 31)))) v3_5 v4 else none else none else f_L_minute_b114 (f_L_minute_b53 n_q0 n_q1 n_q2 fu) n_q0 n_q1 n_q2 c_q2 v3 v4 else none else none else none else none else none : Option (Int32 × A32)) = some z := h
    refine g_iload X 2 rfl dL_minute_53 rfl ?_
    refine g_aload_n X 0 rfl rfl dL_minute_55 rfl ?_
    refine g_bipush (v := 20) X dL_minute_56 (by decide) rfl ?_
    refine g_iald X 2 rfl dL_minute_58 rfl h (fun h => ?_)
    refine g_icmp_ge (tgt := 120) X dL_minute_59 (by decide) rfl h (fun c_1 h => ?_) (fun c_1 h => ?_)
    · refine g_iload_n X 1 rfl rfl dL_minute_120 rfl ?_
      cases Option.some.inj h
      exact hret _ _ dL_minute_121 rfl
    · refine g_aload_n X 0 rfl rfl dL_minute_62 rfl ?_
      refine g_bipush (v := 19) X dL_minute_63 (by decide) rfl ?_
      refine g_iald X 2 rfl dL_minute_65 rfl h (fun h => ?_)
      refine g_iload X 2 rfl dL_minute_66 rfl ?_
      refine g_ishr X dL_minute_68 rfl ?_
      refine g_iconst (v := 1) X dL_minute_69 (by decide) rfl ?_
      refine g_iand X dL_minute_70 rfl ?_
      refine g_iconst (v := 1) X dL_minute_71 (by decide) rfl ?_
      refine g_icmp_eq (tgt := 114) X dL_minute_72 (by decide) rfl h (fun c_2 h => ?_) (fun c_2 h => ?_)
      · exact t_L_minute_b114 X hret ih h
      · refine g_aload_n X 0 rfl rfl dL_minute_75 rfl ?_
        refine g_aload_n X 0 rfl rfl dL_minute_76 rfl ?_
        refine g_bipush (v := 13) X dL_minute_77 (by decide) rfl ?_
        refine g_iload X 2 rfl dL_minute_79 rfl ?_
        refine g_iadd X dL_minute_81 rfl ?_
        refine g_iald X 2 rfl dL_minute_82 rfl h (fun h => ?_)
        refine g_iald X 2 rfl dL_minute_83 rfl h (fun h => ?_)
        refine g_aload_n X 0 rfl rfl dL_minute_84 rfl ?_
        refine g_bipush (v := 7) X dL_minute_85 (by decide) rfl ?_
        refine g_iload X 2 rfl dL_minute_87 rfl ?_
        refine g_iadd X dL_minute_89 rfl ?_
        refine g_iald X 2 rfl dL_minute_90 rfl h (fun h => ?_)
        obtain ⟨z_3, hz_3, h⟩ := bnd_s h
        refine g_callSI (rm := rm_L_bears) (As := [.int (c_q2 (7 + v4).toNatClampNeg)]) (r := z_3) (W0 := []) (W1 := []) (isC := []) (isR := [0, 1, 2]) (perm := [0, 1, 2]) (ws' := (w_L_minute cA a_q0 a_q1 a_q2 n_q0 n_q1 n_q2 c_q0 c_q1 c_q2)) X (c_L_bears l D cA (c_q2 (7 + v4).toNatClampNeg) _ hz_3) gL_minute_L_bears rfl rfl rfl hd_L_bears ⟨Nat.le_of_ble_eq_true rfl, Nat.le_of_ble_eq_true rfl⟩ rfl rfl (Nat.le_of_ble_eq_true rfl) rfl (by decide +kernel) rfl (by decide +kernel) (by decide +kernel) (by decide) rfl (by decide +kernel) dL_minute_91 rfl ?_
        refine g_icmp_gt (tgt := 100) X dL_minute_94 (by decide) rfl h (fun c_4 h => ?_) (fun c_4 h => ?_)
        · refine g_aload_n X 0 rfl rfl dL_minute_100 rfl ?_
          refine g_bipush (v := 19) X dL_minute_101 (by decide) rfl ?_
          refine g_dup2 X dL_minute_103 rfl rfl rfl ?_
          refine g_iald X 2 rfl dL_minute_104 rfl h (fun h => ?_)
          refine g_iconst (v := 1) X dL_minute_105 (by decide) rfl ?_
          refine g_iload X 2 rfl dL_minute_106 rfl ?_
          refine g_ishl X dL_minute_108 rfl ?_
          refine g_ior X dL_minute_109 rfl ?_
          refine g_iast (ws' := (w_L_minute cA a_q0 a_q1 a_q2 n_q0 n_q1 n_q2 c_q0 c_q1 (upd c_q2 (Int32.toNatClampNeg 19) ((c_q2 (Int32.toNatClampNeg 19)) ||| (1 <<< (v4 &&& 31)))))) X 2 rfl rfl dL_minute_110 rfl h (fun h => ?_)
          obtain ⟨v3_5, ev3_5, h⟩ := nam_s h
          refine g_iinc (v := v3_5) (lv' := [(3, .int v3_5), (2, .ref a_q2), (4, .int v4)]) X 1 rfl (by rw [ev3_5]; rfl) (by decide) rfl dL_minute_111 rfl ?_
          refine g_lvs [1, 0, 2] rfl ?_
          exact t_L_minute_b114 X hret ih h
        · refine g_goto (tgt := 114) X dL_minute_97 (by decide) ?_
          exact t_L_minute_b114 X hret ih h
set_option maxHeartbeats 4000000 in
set_option maxRecDepth 100000 in
theorem t_L_minute_b2 {l : Launch} {D : va_G} {cA : ClassId} {p : Program} {e : Env} {s : State} {m : MethodId} {args : Array Value} {below : List Frame} {meth : Method} {c : Code} {A : Nat → Prop} {Q : State → Prop} {z : Int32 × A32} {a_q0 a_q1 a_q2 : Nat}   {n_q0 : Nat} {n_q1 : Nat} {n_q2 : Nat} {c_q0 : A32} {c_q1 : A32}  (X : GX p s m args c cL_minute RL wsL_minute D cA A 5) (hret : RtI p l e rm_L_minute s m args below meth c cL_minute D A 5 0 0 Q .int z.1 (w_L_minute cA a_q0 a_q1 a_q2 n_q0 n_q1 n_q2 c_q0 c_q1 z.2))  : ∀ (fu : Nat) (c_q2 : A32) (v3 : Int32), f_L_minute_b2 n_q0 n_q1 n_q2 c_q0 c_q1 fu c_q2 v3 = some z → G p l e rm_L_minute s m args below meth c D A 5 0 0 Q 2 [(0, .ref a_q0), (1, .ref a_q1), (2, .ref a_q2), (3, .int v3)] [] (w_L_minute cA a_q0 a_q1 a_q2 n_q0 n_q1 n_q2 c_q0 c_q1 c_q2) := by
  intro fu
  induction fu with
  | zero => intro c_q2 v3 h; exact absurd (show (none : Option (Int32 × A32)) = some z from h) (by simp)
  | succ fu ih =>
    intro c_q2 v3 h
    have h : (if 7 ≤ v3 then f_L_minute_b53 n_q0 n_q1 n_q2 FU c_q2 0 0 else Option.bind (f_L_breathes n_q0 n_q1 c_q0 c_q1 v3) fun z_2 => if z_2 = 0 then if inB v3 n_q2 then if 9 ≤ (c_q2 v3.toNatClampNeg) then f_L_minute_b41 (f_L_minute_b2 n_q0 n_q1 n_q2 c_q0 c_q1 fu) n_q0 n_q1 n_q2 c_q0 c_q1 c_q2 v3 9 v3 else if inB v3 n_q2 then f_L_minute_b41 (f_L_minute_b2 n_q0 n_q1 n_q2 c_q0 c_q1 fu) n_q0 n_q1 n_q2 c_q0 c_q1 c_q2 v3 ((c_q2 v3.toNatClampNeg) + 1) v3 else none else none else f_L_minute_b41 (f_L_minute_b2 n_q0 n_q1 n_q2 c_q0 c_q1 fu) n_q0 n_q1 n_q2 c_q0 c_q1 c_q2 v3 0 v3 : Option (Int32 × A32)) = some z := h
    refine g_iload_n X 3 rfl rfl dL_minute_2 rfl ?_
    refine g_bipush (v := 7) X dL_minute_3 (by decide) rfl ?_
    refine g_icmp_ge (tgt := 48) X dL_minute_5 (by decide) rfl h (fun c_1 h => ?_) (fun c_1 h => ?_)
    · refine g_iconst (v := 0) X dL_minute_48 (by decide) rfl ?_
      refine g_istore_n (lv' := [(3, .int 0), (0, .ref a_q0), (1, .ref a_q1), (2, .ref a_q2)]) X rfl (by decide) rfl dL_minute_49 rfl ?_
      refine g_iconst (v := 0) X dL_minute_50 (by decide) rfl ?_
      refine g_istore (lv' := [(4, .int 0), (3, .int 0), (0, .ref a_q0), (1, .ref a_q1), (2, .ref a_q2)]) X (by decide) rfl dL_minute_51 rfl ?_
      refine g_lvs [4, 1, 0] rfl ?_
      exact t_L_minute_b53 X hret _ _ _ _ h
    · refine g_aload_n X 2 rfl rfl dL_minute_8 rfl ?_
      refine g_iload_n X 3 rfl rfl dL_minute_9 rfl ?_
      refine g_aload_n X 0 rfl rfl dL_minute_10 rfl ?_
      refine g_aload_n X 1 rfl rfl dL_minute_11 rfl ?_
      refine g_iload_n X 3 rfl rfl dL_minute_12 rfl ?_
      obtain ⟨z_2, hz_2, h⟩ := bnd_s h
      refine g_callSI (rm := rm_L_breathes) (As := [.ref a_q0, .ref a_q1, .int v3]) (r := z_2) (W0 := (w_L_breathes cA a_q0 a_q1 n_q0 n_q1 c_q0 c_q1)) (W1 := (w_L_breathes cA a_q0 a_q1 n_q0 n_q1 c_q0 c_q1)) (isC := [0, 1]) (isR := [2]) (perm := [1, 2, 0]) (ws' := (w_L_minute cA a_q0 a_q1 a_q2 n_q0 n_q1 n_q2 c_q0 c_q1 c_q2)) X (c_L_breathes l D cA a_q0 a_q1 n_q0 n_q1 c_q0 c_q1 v3 _ hz_2) gL_minute_L_breathes rfl rfl rfl hd_L_breathes ⟨Nat.le_of_ble_eq_true rfl, Nat.le_of_ble_eq_true rfl⟩ rfl rfl (Nat.le_of_ble_eq_true rfl) rfl (by decide +kernel) rfl (by decide +kernel) (by decide +kernel) (by decide) rfl (by decide +kernel) dL_minute_13 rfl ?_
      refine g_if_eq (tgt := 23) X dL_minute_16 (by decide) rfl h (fun c_3 h => ?_) (fun c_3 h => ?_)
      · refine g_aload_n X 2 rfl rfl dL_minute_23 rfl ?_
        refine g_iload_n X 3 rfl rfl dL_minute_24 rfl ?_
        refine g_iald X 2 rfl dL_minute_25 rfl h (fun h => ?_)
        refine g_bipush (v := 9) X dL_minute_26 (by decide) rfl ?_
        refine g_icmp_ge (tgt := 39) X dL_minute_28 (by decide) rfl h (fun c_4 h => ?_) (fun c_4 h => ?_)
        · refine g_bipush (v := 9) X dL_minute_39 (by decide) rfl ?_
          exact t_L_minute_b41 X hret ih h
        · refine g_aload_n X 2 rfl rfl dL_minute_31 rfl ?_
          refine g_iload_n X 3 rfl rfl dL_minute_32 rfl ?_
          refine g_iald X 2 rfl dL_minute_33 rfl h (fun h => ?_)
          refine g_iconst (v := 1) X dL_minute_34 (by decide) rfl ?_
          refine g_iadd X dL_minute_35 rfl ?_
          refine g_goto (tgt := 41) X dL_minute_36 (by decide) ?_
          exact t_L_minute_b41 X hret ih h
      · refine g_iconst (v := 0) X dL_minute_19 (by decide) rfl ?_
        refine g_goto (tgt := 41) X dL_minute_20 (by decide) ?_
        exact t_L_minute_b41 X hret ih h
set_option maxHeartbeats 4000000 in
set_option maxRecDepth 100000 in
theorem c_L_minute (l : Launch) (D : va_G) (cA : ClassId) (a_q0 a_q1 a_q2 : Nat)  (n_q0 : Nat) (n_q1 : Nat) (n_q2 : Nat) (c_q0 : A32) (c_q1 : A32) (c_q2 : A32) (z : Int32 × A32) (h : f_L_minute n_q0 n_q1 n_q2 c_q0 c_q1 c_q2 = some z) : CtI l yL_minute wsL_minute rm_L_minute D cA [.ref a_q0, .ref a_q1, .ref a_q2] (w_L_minute cA a_q0 a_q1 a_q2 n_q0 n_q1 n_q2 c_q0 c_q1 c_q2) z.1 (w_L_minute cA a_q0 a_q1 a_q2 n_q0 n_q1 n_q2 c_q0 c_q1 z.2) := by
  refine ct_I (maxL := 5) (ty := .int) (cc := cL_minute) (by decide) rfl (Nat.le_of_ble_eq_true rfl) rfl (fun p e s m args below meth c A Q X hret => ?_)
  have h : (f_L_minute_b2 n_q0 n_q1 n_q2 c_q0 c_q1 FU c_q2 0 : Option (Int32 × A32)) = some z := h
  refine g_iconst (v := 0) X dL_minute_0 (by decide) rfl ?_
  refine g_istore_n (lv' := [(3, .int 0), (0, .ref a_q0), (1, .ref a_q1), (2, .ref a_q2)]) X rfl (by decide) rfl dL_minute_1 rfl ?_
  refine g_lvs [1, 2, 3, 0] rfl ?_
  exact t_L_minute_b2 X hret _ _ _ h
abbrev rm_L_stands : Room := { frames := 4, cells := 1, slots := 10, locals := 93 }
theorem hd_L_stands : yL_stands.cls ≠ "java/lang/invoke/MethodHandle" ∧ yL_stands.cls ≠ "java/lang/invoke/VarHandle" ∧ (parseMethodDescriptor yL_stands.desc).map (fun d => d.parameters.length) = some 3 := by decide +kernel
abbrev w_L_stands_n1 (cA : ClassId) (a_q0 a_q1 a_q2 a_n1 a_q0_page a_q0_plan a_q0_air a_q0_trial a_q0_smoke a_q0_crew a_q0_now a_q0_kept a_q0_dream a_q0_draws a_q0_rescuers a_q0_page_letters a_q0_page_reader a_q0_plan_one a_q0_plan_two a_q0_plan_length a_q0_plan_draught a_q0_plan_one_cells a_q0_plan_two_cells a_q0_plan_length_cells a_q0_plan_draught_cells a_q0_air_height a_q0_air_into a_q0_air_nearest a_q0_air_height_cells a_q0_air_into_cells a_q0_crew_kinds a_q0_crew_kinds_cells a_q0_now_gas a_q0_now_place a_q0_now_gas_cells a_q0_now_place_cells : Nat) (u_q0_keptMine : Int32) (u_q0_keptMen : Int32) (n_q1 : Nat) (n_q2 : Nat) (c_q0_minesRead : Int32) (c_q0_doorsDone : Int32) (c_q0_page_length : Int32) (c_q0_plan_galleries : Int32) (c_q0_plan_doors : Int32) (c_q0_plan_shafts : Int32) (c_q0_plan_one : A32) (c_q0_plan_two : A32) (c_q0_plan_length : A32) (c_q0_plan_draught : A32) (c_q0_air_breathing : Int32) (c_q0_air_height : A32) (c_q0_air_into : A32) (c_q0_crew_size : Int32) (c_q0_crew_kinds : A32) (c_q0_now_open : Int32) (c_q0_now_moon : Int32) (c_q0_now_out : Int32) (c_q0_now_gone : Int32) (c_q0_now_gas : A32) (c_q0_now_place : A32) (c_q1 : A32) (c_q2 : A32) (c_n1 : A32) : va_W := [(a_q0, .inr (10, [.ref a_q0_page, .ref a_q0_plan, .ref a_q0_air, .ref a_q0_trial, .ref a_q0_smoke, .ref a_q0_crew, .ref a_q0_now, .ref a_q0_kept, .ref a_q0_dream, .ref a_q0_draws, .ref a_q0_rescuers, .int c_q0_minesRead, .int c_q0_doorsDone, .int u_q0_keptMine, .int u_q0_keptMen])), (a_q0_page, .inr (4, [.ref a_q0_page_letters, .int c_q0_page_length, .ref a_q0_page_reader])), (a_q0_plan, .inr (5, [.int c_q0_plan_galleries, .ref a_q0_plan_one, .ref a_q0_plan_two, .ref a_q0_plan_length, .int c_q0_plan_doors, .ref a_q0_plan_draught, .int c_q0_plan_shafts])), (a_q0_plan_one, .inr (8, [.ref a_q0_plan_one_cells])), (a_q0_plan_one_cells, .inl (cA, 10, .inl c_q0_plan_one)), (a_q0_plan_two, .inr (8, [.ref a_q0_plan_two_cells])), (a_q0_plan_two_cells, .inl (cA, 10, .inl c_q0_plan_two)), (a_q0_plan_length, .inr (8, [.ref a_q0_plan_length_cells])), (a_q0_plan_length_cells, .inl (cA, 10, .inl c_q0_plan_length)), (a_q0_plan_draught, .inr (8, [.ref a_q0_plan_draught_cells])), (a_q0_plan_draught_cells, .inl (cA, 7, .inl c_q0_plan_draught)), (a_q0_air, .inr (0, [.ref a_q0_air_height, .ref a_q0_air_into, .int c_q0_air_breathing, .ref a_q0_air_nearest])), (a_q0_air_height, .inr (8, [.ref a_q0_air_height_cells])), (a_q0_air_height_cells, .inl (cA, 7, .inl c_q0_air_height)), (a_q0_air_into, .inr (8, [.ref a_q0_air_into_cells])), (a_q0_air_into_cells, .inl (cA, 10, .inl c_q0_air_into)), (a_q0_crew, .inr (1, [.ref a_q0_crew_kinds, .int c_q0_crew_size])), (a_q0_crew_kinds, .inr (8, [.ref a_q0_crew_kinds_cells])), (a_q0_crew_kinds_cells, .inl (cA, 6, .inl c_q0_crew_kinds)), (a_q0_now, .inr (3, [.int c_q0_now_open, .int c_q0_now_moon, .ref a_q0_now_gas, .ref a_q0_now_place, .int c_q0_now_out, .int c_q0_now_gone])), (a_q0_now_gas, .inr (8, [.ref a_q0_now_gas_cells])), (a_q0_now_gas_cells, .inl (cA, 7, .inl c_q0_now_gas)), (a_q0_now_place, .inr (8, [.ref a_q0_now_place_cells])), (a_q0_now_place_cells, .inl (cA, 6, .inl c_q0_now_place)), (a_q1, .inl (cA, n_q1, .inl c_q1)), (a_q2, .inl (cA, n_q2, .inl c_q2)), (a_n1, .inl (cA, 10, .inl c_n1))]
abbrev w_L_stands (cA : ClassId) (a_q0 a_q1 a_q2 a_q0_page a_q0_plan a_q0_air a_q0_trial a_q0_smoke a_q0_crew a_q0_now a_q0_kept a_q0_dream a_q0_draws a_q0_rescuers a_q0_page_letters a_q0_page_reader a_q0_plan_one a_q0_plan_two a_q0_plan_length a_q0_plan_draught a_q0_plan_one_cells a_q0_plan_two_cells a_q0_plan_length_cells a_q0_plan_draught_cells a_q0_air_height a_q0_air_into a_q0_air_nearest a_q0_air_height_cells a_q0_air_into_cells a_q0_crew_kinds a_q0_crew_kinds_cells a_q0_now_gas a_q0_now_place a_q0_now_gas_cells a_q0_now_place_cells : Nat) (u_q0_keptMine : Int32) (u_q0_keptMen : Int32) (n_q1 : Nat) (n_q2 : Nat) (c_q0_minesRead : Int32) (c_q0_doorsDone : Int32) (c_q0_page_length : Int32) (c_q0_plan_galleries : Int32) (c_q0_plan_doors : Int32) (c_q0_plan_shafts : Int32) (c_q0_plan_one : A32) (c_q0_plan_two : A32) (c_q0_plan_length : A32) (c_q0_plan_draught : A32) (c_q0_air_breathing : Int32) (c_q0_air_height : A32) (c_q0_air_into : A32) (c_q0_crew_size : Int32) (c_q0_crew_kinds : A32) (c_q0_now_open : Int32) (c_q0_now_moon : Int32) (c_q0_now_out : Int32) (c_q0_now_gone : Int32) (c_q0_now_gas : A32) (c_q0_now_place : A32) (c_q1 : A32) (c_q2 : A32) : va_W := [(a_q0, .inr (10, [.ref a_q0_page, .ref a_q0_plan, .ref a_q0_air, .ref a_q0_trial, .ref a_q0_smoke, .ref a_q0_crew, .ref a_q0_now, .ref a_q0_kept, .ref a_q0_dream, .ref a_q0_draws, .ref a_q0_rescuers, .int c_q0_minesRead, .int c_q0_doorsDone, .int u_q0_keptMine, .int u_q0_keptMen])), (a_q0_page, .inr (4, [.ref a_q0_page_letters, .int c_q0_page_length, .ref a_q0_page_reader])), (a_q0_plan, .inr (5, [.int c_q0_plan_galleries, .ref a_q0_plan_one, .ref a_q0_plan_two, .ref a_q0_plan_length, .int c_q0_plan_doors, .ref a_q0_plan_draught, .int c_q0_plan_shafts])), (a_q0_plan_one, .inr (8, [.ref a_q0_plan_one_cells])), (a_q0_plan_one_cells, .inl (cA, 10, .inl c_q0_plan_one)), (a_q0_plan_two, .inr (8, [.ref a_q0_plan_two_cells])), (a_q0_plan_two_cells, .inl (cA, 10, .inl c_q0_plan_two)), (a_q0_plan_length, .inr (8, [.ref a_q0_plan_length_cells])), (a_q0_plan_length_cells, .inl (cA, 10, .inl c_q0_plan_length)), (a_q0_plan_draught, .inr (8, [.ref a_q0_plan_draught_cells])), (a_q0_plan_draught_cells, .inl (cA, 7, .inl c_q0_plan_draught)), (a_q0_air, .inr (0, [.ref a_q0_air_height, .ref a_q0_air_into, .int c_q0_air_breathing, .ref a_q0_air_nearest])), (a_q0_air_height, .inr (8, [.ref a_q0_air_height_cells])), (a_q0_air_height_cells, .inl (cA, 7, .inl c_q0_air_height)), (a_q0_air_into, .inr (8, [.ref a_q0_air_into_cells])), (a_q0_air_into_cells, .inl (cA, 10, .inl c_q0_air_into)), (a_q0_crew, .inr (1, [.ref a_q0_crew_kinds, .int c_q0_crew_size])), (a_q0_crew_kinds, .inr (8, [.ref a_q0_crew_kinds_cells])), (a_q0_crew_kinds_cells, .inl (cA, 6, .inl c_q0_crew_kinds)), (a_q0_now, .inr (3, [.int c_q0_now_open, .int c_q0_now_moon, .ref a_q0_now_gas, .ref a_q0_now_place, .int c_q0_now_out, .int c_q0_now_gone])), (a_q0_now_gas, .inr (8, [.ref a_q0_now_gas_cells])), (a_q0_now_gas_cells, .inl (cA, 7, .inl c_q0_now_gas)), (a_q0_now_place, .inr (8, [.ref a_q0_now_place_cells])), (a_q0_now_place_cells, .inl (cA, 6, .inl c_q0_now_place)), (a_q1, .inl (cA, n_q1, .inl c_q1)), (a_q2, .inl (cA, n_q2, .inl c_q2))]
set_option maxHeartbeats 4000000 in
set_option maxRecDepth 100000 in
theorem t_L_stands_b189 {l : Launch} {D : va_G} {cA : ClassId} {p : Program} {e : Env} {s : State} {m : MethodId} {args : Array Value} {below : List Frame} {meth : Method} {c : Code} {A : Nat → Prop} {Q : State → Prop} {z : Int32} {a_q0 a_q1 a_q2 a_n1 a_q0_page a_q0_plan a_q0_air a_q0_trial a_q0_smoke a_q0_crew a_q0_now a_q0_kept a_q0_dream a_q0_draws a_q0_rescuers a_q0_page_letters a_q0_page_reader a_q0_plan_one a_q0_plan_two a_q0_plan_length a_q0_plan_draught a_q0_plan_one_cells a_q0_plan_two_cells a_q0_plan_length_cells a_q0_plan_draught_cells a_q0_air_height a_q0_air_into a_q0_air_nearest a_q0_air_height_cells a_q0_air_into_cells a_q0_crew_kinds a_q0_crew_kinds_cells a_q0_now_gas a_q0_now_place a_q0_now_gas_cells a_q0_now_place_cells : Nat} {u_q0_keptMine : Int32} {u_q0_keptMen : Int32} {c_q0_plan_one : A32} {c_q0_plan_two : A32} {c_q0_plan_length : A32} {c_q0_air_into : A32} {c_q0_now_open : Int32} {n_q1 : Nat} {n_q2 : Nat} {c_q0_minesRead : Int32} {c_q0_doorsDone : Int32} {c_q0_page_length : Int32} {c_q0_plan_galleries : Int32} {c_q0_plan_doors : Int32} {c_q0_plan_shafts : Int32} {c_q0_plan_draught : A32} {c_q0_air_breathing : Int32} {c_q0_air_height : A32} {c_q0_crew_size : Int32} {c_q0_crew_kinds : A32} {c_q0_now_moon : Int32} {c_q0_now_out : Int32} {c_q0_now_gone : Int32} {c_q0_now_gas : A32} {c_q0_now_place : A32} {c_q1 : A32} {c_q2 : A32} {c_n1 : A32} {t0 : Int32} {t1 : Int32} {v4 : Int32} {k125 : Int32 → Option (Int32)} (X : GX p s m args c cL_stands RL wsL_stands D cA A 5) (hret : RtI p l e rm_L_stands s m args below meth c cL_stands D A 5 1 10 Q .boolean z (w_L_stands cA a_q0 a_q1 a_q2 a_q0_page a_q0_plan a_q0_air a_q0_trial a_q0_smoke a_q0_crew a_q0_now a_q0_kept a_q0_dream a_q0_draws a_q0_rescuers a_q0_page_letters a_q0_page_reader a_q0_plan_one a_q0_plan_two a_q0_plan_length a_q0_plan_draught a_q0_plan_one_cells a_q0_plan_two_cells a_q0_plan_length_cells a_q0_plan_draught_cells a_q0_air_height a_q0_air_into a_q0_air_nearest a_q0_air_height_cells a_q0_air_into_cells a_q0_crew_kinds a_q0_crew_kinds_cells a_q0_now_gas a_q0_now_place a_q0_now_gas_cells a_q0_now_place_cells u_q0_keptMine u_q0_keptMen n_q1 n_q2 c_q0_minesRead c_q0_doorsDone c_q0_page_length c_q0_plan_galleries c_q0_plan_doors c_q0_plan_shafts c_q0_plan_one c_q0_plan_two c_q0_plan_length c_q0_plan_draught c_q0_air_breathing c_q0_air_height c_q0_air_into c_q0_crew_size c_q0_crew_kinds c_q0_now_open c_q0_now_moon c_q0_now_out c_q0_now_gone c_q0_now_gas c_q0_now_place c_q1 c_q2)) (hk125 : ∀ (v4 : Int32), k125 v4 = some z → G p l e rm_L_stands s m args below meth c D A 5 1 10 Q 125 [(0, .ref a_q0), (1, .ref a_q1), (2, .ref a_q2), (3, .ref a_n1), (4, .int v4)] [] (w_L_stands_n1 cA a_q0 a_q1 a_q2 a_n1 a_q0_page a_q0_plan a_q0_air a_q0_trial a_q0_smoke a_q0_crew a_q0_now a_q0_kept a_q0_dream a_q0_draws a_q0_rescuers a_q0_page_letters a_q0_page_reader a_q0_plan_one a_q0_plan_two a_q0_plan_length a_q0_plan_draught a_q0_plan_one_cells a_q0_plan_two_cells a_q0_plan_length_cells a_q0_plan_draught_cells a_q0_air_height a_q0_air_into a_q0_air_nearest a_q0_air_height_cells a_q0_air_into_cells a_q0_crew_kinds a_q0_crew_kinds_cells a_q0_now_gas a_q0_now_place a_q0_now_gas_cells a_q0_now_place_cells u_q0_keptMine u_q0_keptMen n_q1 n_q2 c_q0_minesRead c_q0_doorsDone c_q0_page_length c_q0_plan_galleries c_q0_plan_doors c_q0_plan_shafts c_q0_plan_one c_q0_plan_two c_q0_plan_length c_q0_plan_draught c_q0_air_breathing c_q0_air_height c_q0_air_into c_q0_crew_size c_q0_crew_kinds c_q0_now_open c_q0_now_moon c_q0_now_out c_q0_now_gone c_q0_now_gas c_q0_now_place c_q1 c_q2 c_n1)) (h : f_L_stands_b189 k125 n_q1 n_q2 c_q0_minesRead c_q0_doorsDone c_q0_page_length c_q0_plan_galleries c_q0_plan_doors c_q0_plan_shafts c_q0_plan_draught c_q0_air_breathing c_q0_air_height c_q0_crew_size c_q0_crew_kinds c_q0_now_moon c_q0_now_out c_q0_now_gone c_q0_now_gas c_q0_now_place c_q1 c_q2 c_n1 t0 t1 v4 = some z) : G p l e rm_L_stands s m args below meth c D A 5 1 10 Q 189 [(0, .ref a_q0), (1, .ref a_q1), (2, .ref a_q2), (3, .ref a_n1), (4, .int v4)] [.int t1, .int t0] (w_L_stands_n1 cA a_q0 a_q1 a_q2 a_n1 a_q0_page a_q0_plan a_q0_air a_q0_trial a_q0_smoke a_q0_crew a_q0_now a_q0_kept a_q0_dream a_q0_draws a_q0_rescuers a_q0_page_letters a_q0_page_reader a_q0_plan_one a_q0_plan_two a_q0_plan_length a_q0_plan_draught a_q0_plan_one_cells a_q0_plan_two_cells a_q0_plan_length_cells a_q0_plan_draught_cells a_q0_air_height a_q0_air_into a_q0_air_nearest a_q0_air_height_cells a_q0_air_into_cells a_q0_crew_kinds a_q0_crew_kinds_cells a_q0_now_gas a_q0_now_place a_q0_now_gas_cells a_q0_now_place_cells u_q0_keptMine u_q0_keptMen n_q1 n_q2 c_q0_minesRead c_q0_doorsDone c_q0_page_length c_q0_plan_galleries c_q0_plan_doors c_q0_plan_shafts c_q0_plan_one c_q0_plan_two c_q0_plan_length c_q0_plan_draught c_q0_air_breathing c_q0_air_height c_q0_air_into c_q0_crew_size c_q0_crew_kinds c_q0_now_open c_q0_now_moon c_q0_now_out c_q0_now_gone c_q0_now_gas c_q0_now_place c_q1 c_q2 c_n1) := by
  have h : (if t0 = t1 then Option.bind (f_X10_knot c_q0_plan_galleries c_q0_plan_draught c_q0_air_breathing c_q0_air_height c_q0_now_gas v4 3) fun z_2 => if inB v4 n_q2 then if z_2 = (c_q2 v4.toNatClampNeg) then nam (v4 + 1) fun v4_4 => k125 v4_4 else some 0 else none else some 0 : Option (Int32)) = some z := h
  refine g_icmp_ne (tgt := 206) X dL_stands_189 (by decide) rfl h (fun c_1 h => ?_) (fun c_1 h => ?_)
  · refine g_iconst (v := 0) X dL_stands_206 (by decide) rfl ?_
    refine g_wperm (ws' := (w_L_stands cA a_q0 a_q1 a_q2 a_q0_page a_q0_plan a_q0_air a_q0_trial a_q0_smoke a_q0_crew a_q0_now a_q0_kept a_q0_dream a_q0_draws a_q0_rescuers a_q0_page_letters a_q0_page_reader a_q0_plan_one a_q0_plan_two a_q0_plan_length a_q0_plan_draught a_q0_plan_one_cells a_q0_plan_two_cells a_q0_plan_length_cells a_q0_plan_draught_cells a_q0_air_height a_q0_air_into a_q0_air_nearest a_q0_air_height_cells a_q0_air_into_cells a_q0_crew_kinds a_q0_crew_kinds_cells a_q0_now_gas a_q0_now_place a_q0_now_gas_cells a_q0_now_place_cells u_q0_keptMine u_q0_keptMen n_q1 n_q2 c_q0_minesRead c_q0_doorsDone c_q0_page_length c_q0_plan_galleries c_q0_plan_doors c_q0_plan_shafts c_q0_plan_one c_q0_plan_two c_q0_plan_length c_q0_plan_draught c_q0_air_breathing c_q0_air_height c_q0_air_into c_q0_crew_size c_q0_crew_kinds c_q0_now_open c_q0_now_moon c_q0_now_out c_q0_now_gone c_q0_now_gas c_q0_now_place c_q1 c_q2)) [0, 1, 2, 3, 4, 5, 6, 7, 8, 9, 10, 11, 12, 13, 14, 15, 16, 17, 18, 19, 20, 21, 22, 23, 24, 25] rfl (by decide) ?_
    cases Option.some.inj h
    exact hret _ _ dL_stands_207 (nar_z (Or.inl rfl))
  · refine g_aload_n X 0 rfl rfl dL_stands_192 rfl ?_
    refine g_iload X 4 rfl dL_stands_193 rfl ?_
    refine g_iconst (v := 3) X dL_stands_195 (by decide) rfl ?_
    obtain ⟨z_2, hz_2, h⟩ := bnd_s h
    refine g_callVI (rm := rm_X10_knot) (As := [.int v4, .int 3]) (r := z_2) (W0 := (w_X10_knot cA a_q0 a_q0_page a_q0_plan a_q0_air a_q0_trial a_q0_smoke a_q0_crew a_q0_now a_q0_kept a_q0_dream a_q0_draws a_q0_rescuers a_q0_plan_one a_q0_plan_two a_q0_plan_length a_q0_plan_draught a_q0_plan_draught_cells a_q0_air_height a_q0_air_into a_q0_air_nearest a_q0_air_height_cells a_q0_now_gas a_q0_now_place a_q0_now_gas_cells c_q0_minesRead c_q0_doorsDone u_q0_keptMine u_q0_keptMen c_q0_plan_doors c_q0_plan_shafts c_q0_now_open c_q0_now_moon c_q0_now_out c_q0_now_gone c_q0_plan_galleries c_q0_plan_draught c_q0_air_breathing c_q0_air_height c_q0_now_gas)) (W1 := (w_X10_knot cA a_q0 a_q0_page a_q0_plan a_q0_air a_q0_trial a_q0_smoke a_q0_crew a_q0_now a_q0_kept a_q0_dream a_q0_draws a_q0_rescuers a_q0_plan_one a_q0_plan_two a_q0_plan_length a_q0_plan_draught a_q0_plan_draught_cells a_q0_air_height a_q0_air_into a_q0_air_nearest a_q0_air_height_cells a_q0_now_gas a_q0_now_place a_q0_now_gas_cells c_q0_minesRead c_q0_doorsDone u_q0_keptMine u_q0_keptMen c_q0_plan_doors c_q0_plan_shafts c_q0_now_open c_q0_now_moon c_q0_now_out c_q0_now_gone c_q0_plan_galleries c_q0_plan_draught c_q0_air_breathing c_q0_air_height c_q0_now_gas)) (isC := [0, 2, 9, 10, 11, 12, 13, 19, 20, 21]) (isR := [1, 3, 4, 5, 6, 7, 8, 14, 15, 16, 17, 18, 22, 23, 24, 25, 26]) (perm := [17, 0, 18, 1, 2, 3, 4, 5, 6, 19, 20, 21, 22, 23, 7, 8, 9, 10, 11, 24, 25, 26, 12, 13, 14, 15, 16]) (ws' := (w_L_stands_n1 cA a_q0 a_q1 a_q2 a_n1 a_q0_page a_q0_plan a_q0_air a_q0_trial a_q0_smoke a_q0_crew a_q0_now a_q0_kept a_q0_dream a_q0_draws a_q0_rescuers a_q0_page_letters a_q0_page_reader a_q0_plan_one a_q0_plan_two a_q0_plan_length a_q0_plan_draught a_q0_plan_one_cells a_q0_plan_two_cells a_q0_plan_length_cells a_q0_plan_draught_cells a_q0_air_height a_q0_air_into a_q0_air_nearest a_q0_air_height_cells a_q0_air_into_cells a_q0_crew_kinds a_q0_crew_kinds_cells a_q0_now_gas a_q0_now_place a_q0_now_gas_cells a_q0_now_place_cells u_q0_keptMine u_q0_keptMen n_q1 n_q2 c_q0_minesRead c_q0_doorsDone c_q0_page_length c_q0_plan_galleries c_q0_plan_doors c_q0_plan_shafts c_q0_plan_one c_q0_plan_two c_q0_plan_length c_q0_plan_draught c_q0_air_breathing c_q0_air_height c_q0_air_into c_q0_crew_size c_q0_crew_kinds c_q0_now_open c_q0_now_moon c_q0_now_out c_q0_now_gone c_q0_now_gas c_q0_now_place c_q1 c_q2 c_n1)) X (c_X10_knot l D cA a_q0 a_q0_page a_q0_plan a_q0_air a_q0_trial a_q0_smoke a_q0_crew a_q0_now a_q0_kept a_q0_dream a_q0_draws a_q0_rescuers a_q0_plan_one a_q0_plan_two a_q0_plan_length a_q0_plan_draught a_q0_plan_draught_cells a_q0_air_height a_q0_air_into a_q0_air_nearest a_q0_air_height_cells a_q0_now_gas a_q0_now_place a_q0_now_gas_cells c_q0_minesRead c_q0_doorsDone u_q0_keptMine u_q0_keptMen c_q0_plan_doors c_q0_plan_shafts c_q0_now_open c_q0_now_moon c_q0_now_out c_q0_now_gone c_q0_plan_galleries c_q0_plan_draught c_q0_air_breathing c_q0_air_height c_q0_now_gas v4 3 _ hz_2) 0 rfl rfl rfl gL_stands_X10_knot rfl rfl rfl ⟨rfl, hd_X10_knot⟩ ⟨Nat.le_of_ble_eq_true rfl, Nat.le_of_ble_eq_true rfl⟩ rfl rfl (Nat.le_of_ble_eq_true rfl) rfl (by decide +kernel) rfl (by decide +kernel) (by decide +kernel) (by decide) rfl (by decide +kernel) dL_stands_196 rfl ?_
    refine g_aload_n X 2 rfl rfl dL_stands_199 rfl ?_
    refine g_iload X 4 rfl dL_stands_200 rfl ?_
    refine g_iald X 25 rfl dL_stands_202 rfl h (fun h => ?_)
    refine g_icmp_eq (tgt := 208) X dL_stands_203 (by decide) rfl h (fun c_3 h => ?_) (fun c_3 h => ?_)
    · obtain ⟨v4_4, ev4_4, h⟩ := nam_s h
      refine g_iinc (v := v4_4) (lv' := [(4, .int v4_4), (0, .ref a_q0), (1, .ref a_q1), (2, .ref a_q2), (3, .ref a_n1)]) X 4 rfl (by rw [ev4_4]; rfl) (by decide) rfl dL_stands_208 rfl ?_
      refine g_goto (tgt := 125) X dL_stands_211 (by decide) ?_
      refine g_lvs [1, 2, 3, 4, 0] rfl ?_
      exact hk125 _ h
    · refine g_iconst (v := 0) X dL_stands_206 (by decide) rfl ?_
      refine g_wperm (ws' := (w_L_stands cA a_q0 a_q1 a_q2 a_q0_page a_q0_plan a_q0_air a_q0_trial a_q0_smoke a_q0_crew a_q0_now a_q0_kept a_q0_dream a_q0_draws a_q0_rescuers a_q0_page_letters a_q0_page_reader a_q0_plan_one a_q0_plan_two a_q0_plan_length a_q0_plan_draught a_q0_plan_one_cells a_q0_plan_two_cells a_q0_plan_length_cells a_q0_plan_draught_cells a_q0_air_height a_q0_air_into a_q0_air_nearest a_q0_air_height_cells a_q0_air_into_cells a_q0_crew_kinds a_q0_crew_kinds_cells a_q0_now_gas a_q0_now_place a_q0_now_gas_cells a_q0_now_place_cells u_q0_keptMine u_q0_keptMen n_q1 n_q2 c_q0_minesRead c_q0_doorsDone c_q0_page_length c_q0_plan_galleries c_q0_plan_doors c_q0_plan_shafts c_q0_plan_one c_q0_plan_two c_q0_plan_length c_q0_plan_draught c_q0_air_breathing c_q0_air_height c_q0_air_into c_q0_crew_size c_q0_crew_kinds c_q0_now_open c_q0_now_moon c_q0_now_out c_q0_now_gone c_q0_now_gas c_q0_now_place c_q1 c_q2)) [0, 1, 2, 3, 4, 5, 6, 7, 8, 9, 10, 11, 12, 13, 14, 15, 16, 17, 18, 19, 20, 21, 22, 23, 24, 25] rfl (by decide) ?_
      cases Option.some.inj h
      exact hret _ _ dL_stands_207 (nar_z (Or.inl rfl))
set_option maxHeartbeats 4000000 in
set_option maxRecDepth 100000 in
theorem t_L_stands_b217 {l : Launch} {D : va_G} {cA : ClassId} {p : Program} {e : Env} {s : State} {m : MethodId} {args : Array Value} {below : List Frame} {meth : Method} {c : Code} {A : Nat → Prop} {Q : State → Prop} {z : Int32} {a_q0 a_q1 a_q2 a_n1 a_q0_page a_q0_plan a_q0_air a_q0_trial a_q0_smoke a_q0_crew a_q0_now a_q0_kept a_q0_dream a_q0_draws a_q0_rescuers a_q0_page_letters a_q0_page_reader a_q0_plan_one a_q0_plan_two a_q0_plan_length a_q0_plan_draught a_q0_plan_one_cells a_q0_plan_two_cells a_q0_plan_length_cells a_q0_plan_draught_cells a_q0_air_height a_q0_air_into a_q0_air_nearest a_q0_air_height_cells a_q0_air_into_cells a_q0_crew_kinds a_q0_crew_kinds_cells a_q0_now_gas a_q0_now_place a_q0_now_gas_cells a_q0_now_place_cells : Nat} {u_q0_keptMine : Int32} {u_q0_keptMen : Int32} {c_q0_plan_one : A32} {c_q0_plan_two : A32} {c_q0_plan_length : A32} {c_q0_plan_draught : A32} {c_q0_air_breathing : Int32} {c_q0_air_height : A32} {c_q0_air_into : A32} {c_q0_now_open : Int32} {c_q0_now_gas : A32} {n_q1 : Nat} {n_q2 : Nat} {c_q0_minesRead : Int32} {c_q0_doorsDone : Int32} {c_q0_page_length : Int32} {c_q0_plan_galleries : Int32} {c_q0_plan_doors : Int32} {c_q0_plan_shafts : Int32} {c_q0_crew_size : Int32} {c_q0_crew_kinds : A32} {c_q0_now_moon : Int32} {c_q0_now_out : Int32} {c_q0_now_gone : Int32} {c_q0_now_place : A32} {c_q1 : A32} {c_q2 : A32} {c_n1 : A32}  (X : GX p s m args c cL_stands RL wsL_stands D cA A 5) (hret : RtI p l e rm_L_stands s m args below meth c cL_stands D A 5 1 10 Q .boolean z (w_L_stands cA a_q0 a_q1 a_q2 a_q0_page a_q0_plan a_q0_air a_q0_trial a_q0_smoke a_q0_crew a_q0_now a_q0_kept a_q0_dream a_q0_draws a_q0_rescuers a_q0_page_letters a_q0_page_reader a_q0_plan_one a_q0_plan_two a_q0_plan_length a_q0_plan_draught a_q0_plan_one_cells a_q0_plan_two_cells a_q0_plan_length_cells a_q0_plan_draught_cells a_q0_air_height a_q0_air_into a_q0_air_nearest a_q0_air_height_cells a_q0_air_into_cells a_q0_crew_kinds a_q0_crew_kinds_cells a_q0_now_gas a_q0_now_place a_q0_now_gas_cells a_q0_now_place_cells u_q0_keptMine u_q0_keptMen n_q1 n_q2 c_q0_minesRead c_q0_doorsDone c_q0_page_length c_q0_plan_galleries c_q0_plan_doors c_q0_plan_shafts c_q0_plan_one c_q0_plan_two c_q0_plan_length c_q0_plan_draught c_q0_air_breathing c_q0_air_height c_q0_air_into c_q0_crew_size c_q0_crew_kinds c_q0_now_open c_q0_now_moon c_q0_now_out c_q0_now_gone c_q0_now_gas c_q0_now_place c_q1 c_q2))  : ∀ (fu : Nat) (v4 : Int32), f_L_stands_b217 n_q1 n_q2 c_q0_minesRead c_q0_doorsDone c_q0_page_length c_q0_plan_galleries c_q0_plan_doors c_q0_plan_shafts c_q0_crew_size c_q0_crew_kinds c_q0_now_moon c_q0_now_out c_q0_now_gone c_q0_now_place c_q1 c_q2 c_n1 fu v4 = some z → G p l e rm_L_stands s m args below meth c D A 5 1 10 Q 217 [(0, .ref a_q0), (1, .ref a_q1), (2, .ref a_q2), (4, .int v4)] [] (w_L_stands_n1 cA a_q0 a_q1 a_q2 a_n1 a_q0_page a_q0_plan a_q0_air a_q0_trial a_q0_smoke a_q0_crew a_q0_now a_q0_kept a_q0_dream a_q0_draws a_q0_rescuers a_q0_page_letters a_q0_page_reader a_q0_plan_one a_q0_plan_two a_q0_plan_length a_q0_plan_draught a_q0_plan_one_cells a_q0_plan_two_cells a_q0_plan_length_cells a_q0_plan_draught_cells a_q0_air_height a_q0_air_into a_q0_air_nearest a_q0_air_height_cells a_q0_air_into_cells a_q0_crew_kinds a_q0_crew_kinds_cells a_q0_now_gas a_q0_now_place a_q0_now_gas_cells a_q0_now_place_cells u_q0_keptMine u_q0_keptMen n_q1 n_q2 c_q0_minesRead c_q0_doorsDone c_q0_page_length c_q0_plan_galleries c_q0_plan_doors c_q0_plan_shafts c_q0_plan_one c_q0_plan_two c_q0_plan_length c_q0_plan_draught c_q0_air_breathing c_q0_air_height c_q0_air_into c_q0_crew_size c_q0_crew_kinds c_q0_now_open c_q0_now_moon c_q0_now_out c_q0_now_gone c_q0_now_gas c_q0_now_place c_q1 c_q2 c_n1) := by
  intro fu
  induction fu with
  | zero => intro v4 h; exact absurd (show (none : Option (Int32)) = some z from h) (by simp)
  | succ fu ih =>
    intro v4 h
    have h : (if inB 20 n_q2 then if (c_q2 (Int32.toNatClampNeg 20)) ≤ v4 then Option.bind (f_X10_count c_q0_minesRead c_q0_doorsDone c_q0_page_length c_q0_plan_galleries c_q0_plan_doors c_q0_plan_shafts c_q0_crew_size c_q0_now_moon c_q0_now_gone 3) fun z_2 => if inB 20 n_q2 then if z_2 = (c_q2 (Int32.toNatClampNeg 20)) then Option.bind (f_X10_count c_q0_minesRead c_q0_doorsDone c_q0_page_length c_q0_plan_galleries c_q0_plan_doors c_q0_plan_shafts c_q0_crew_size c_q0_now_moon c_q0_now_gone 4) fun z_4 => if inB 51 n_q1 then if z_4 = (c_q1 (Int32.toNatClampNeg 51)) then Option.bind (f_X10_count c_q0_minesRead c_q0_doorsDone c_q0_page_length c_q0_plan_galleries c_q0_plan_doors c_q0_plan_shafts c_q0_crew_size c_q0_now_moon c_q0_now_gone 5) fun z_6 => if inB 21 n_q2 then if z_6 = (c_q2 (Int32.toNatClampNeg 21)) then some 1 else some 0 else none else some 0 else none else some 0 else none else Option.bind (f_X10_about c_q0_crew_size c_q0_crew_kinds c_q0_now_out c_q0_now_place v4 0) fun z_8 => if inB (7 + v4) n_q2 then if z_8 = (c_q2 (7 + v4).toNatClampNeg) then Option.bind (f_X10_about c_q0_crew_size c_q0_crew_kinds c_q0_now_out c_q0_now_place v4 1) fun z_10 => if inB (13 + v4) n_q2 then if z_10 = (c_q2 (13 + v4).toNatClampNeg) then Option.bind (f_X10_about c_q0_crew_size c_q0_crew_kinds c_q0_now_out c_q0_now_place v4 2) fun z_12 => if inB 19 n_q2 then if z_12 = (((c_q2 (Int32.toNatClampNeg 19)) >>> (v4 &&& 31)) &&& 1) then Option.bind (f_X10_about c_q0_crew_size c_q0_crew_kinds c_q0_now_out c_q0_now_place v4 3) fun z_14 => if inB (7 + v4) n_q2 then Option.bind (f_L_bears (c_q2 (7 + v4).toNatClampNeg)) fun z_15 => if z_14 = z_15 then nam (v4 + 1) fun v4_17 => (f_L_stands_b217 n_q1 n_q2 c_q0_minesRead c_q0_doorsDone c_q0_page_length c_q0_plan_galleries c_q0_plan_doors c_q0_plan_shafts c_q0_crew_size c_q0_crew_kinds c_q0_now_moon c_q0_now_out c_q0_now_gone c_q0_now_place c_q1 c_q2 c_n1 fu) v4_17 else some 0 else none else some 0 else none else some 0 else none else some 0 else none else none : Option (Int32)) = some z := h
    refine g_iload X 3 rfl dL_stands_217 rfl ?_
    refine g_aload_n X 2 rfl rfl dL_stands_219 rfl ?_
    refine g_bipush (v := 20) X dL_stands_220 (by decide) rfl ?_
    refine g_iald X 25 rfl dL_stands_222 rfl h (fun h => ?_)
    refine g_icmp_ge (tgt := 307) X dL_stands_223 (by decide) rfl h (fun c_1 h => ?_) (fun c_1 h => ?_)
    · refine g_aload_n X 0 rfl rfl dL_stands_307 rfl ?_
      refine g_iconst (v := 3) X dL_stands_308 (by decide) rfl ?_
      obtain ⟨z_2, hz_2, h⟩ := bnd_s h
      refine g_callVI (rm := rm_X10_count) (As := [.int 3]) (r := z_2) (W0 := (w_X10_count cA a_q0 a_q0_page a_q0_plan a_q0_air a_q0_trial a_q0_smoke a_q0_crew a_q0_now a_q0_kept a_q0_dream a_q0_draws a_q0_rescuers a_q0_page_letters a_q0_page_reader a_q0_plan_one a_q0_plan_two a_q0_plan_length a_q0_plan_draught a_q0_crew_kinds a_q0_now_gas a_q0_now_place u_q0_keptMine u_q0_keptMen c_q0_now_open c_q0_now_out c_q0_minesRead c_q0_doorsDone c_q0_page_length c_q0_plan_galleries c_q0_plan_doors c_q0_plan_shafts c_q0_crew_size c_q0_now_moon c_q0_now_gone)) (W1 := (w_X10_count cA a_q0 a_q0_page a_q0_plan a_q0_air a_q0_trial a_q0_smoke a_q0_crew a_q0_now a_q0_kept a_q0_dream a_q0_draws a_q0_rescuers a_q0_page_letters a_q0_page_reader a_q0_plan_one a_q0_plan_two a_q0_plan_length a_q0_plan_draught a_q0_crew_kinds a_q0_now_gas a_q0_now_place u_q0_keptMine u_q0_keptMen c_q0_now_open c_q0_now_out c_q0_minesRead c_q0_doorsDone c_q0_page_length c_q0_plan_galleries c_q0_plan_doors c_q0_plan_shafts c_q0_crew_size c_q0_now_moon c_q0_now_gone)) (isC := [0, 1, 2, 16, 19]) (isR := [3, 4, 5, 6, 7, 8, 9, 10, 11, 12, 13, 14, 15, 17, 18, 20, 21, 22, 23, 24, 25, 26]) (perm := [22, 23, 24, 0, 1, 2, 3, 4, 5, 6, 7, 8, 9, 10, 11, 12, 25, 13, 14, 26, 15, 16, 17, 18, 19, 20, 21]) (ws' := (w_L_stands_n1 cA a_q0 a_q1 a_q2 a_n1 a_q0_page a_q0_plan a_q0_air a_q0_trial a_q0_smoke a_q0_crew a_q0_now a_q0_kept a_q0_dream a_q0_draws a_q0_rescuers a_q0_page_letters a_q0_page_reader a_q0_plan_one a_q0_plan_two a_q0_plan_length a_q0_plan_draught a_q0_plan_one_cells a_q0_plan_two_cells a_q0_plan_length_cells a_q0_plan_draught_cells a_q0_air_height a_q0_air_into a_q0_air_nearest a_q0_air_height_cells a_q0_air_into_cells a_q0_crew_kinds a_q0_crew_kinds_cells a_q0_now_gas a_q0_now_place a_q0_now_gas_cells a_q0_now_place_cells u_q0_keptMine u_q0_keptMen n_q1 n_q2 c_q0_minesRead c_q0_doorsDone c_q0_page_length c_q0_plan_galleries c_q0_plan_doors c_q0_plan_shafts c_q0_plan_one c_q0_plan_two c_q0_plan_length c_q0_plan_draught c_q0_air_breathing c_q0_air_height c_q0_air_into c_q0_crew_size c_q0_crew_kinds c_q0_now_open c_q0_now_moon c_q0_now_out c_q0_now_gone c_q0_now_gas c_q0_now_place c_q1 c_q2 c_n1)) X (c_X10_count l D cA a_q0 a_q0_page a_q0_plan a_q0_air a_q0_trial a_q0_smoke a_q0_crew a_q0_now a_q0_kept a_q0_dream a_q0_draws a_q0_rescuers a_q0_page_letters a_q0_page_reader a_q0_plan_one a_q0_plan_two a_q0_plan_length a_q0_plan_draught a_q0_crew_kinds a_q0_now_gas a_q0_now_place u_q0_keptMine u_q0_keptMen c_q0_now_open c_q0_now_out c_q0_minesRead c_q0_doorsDone c_q0_page_length c_q0_plan_galleries c_q0_plan_doors c_q0_plan_shafts c_q0_crew_size c_q0_now_moon c_q0_now_gone 3 _ hz_2) 0 rfl rfl rfl gL_stands_X10_count rfl rfl rfl ⟨rfl, hd_X10_count⟩ ⟨Nat.le_of_ble_eq_true rfl, Nat.le_of_ble_eq_true rfl⟩ rfl rfl (Nat.le_of_ble_eq_true rfl) rfl (by decide +kernel) rfl (by decide +kernel) (by decide +kernel) (by decide) rfl (by decide +kernel) dL_stands_309 rfl ?_
      refine g_aload_n X 2 rfl rfl dL_stands_312 rfl ?_
      refine g_bipush (v := 20) X dL_stands_313 (by decide) rfl ?_
      refine g_iald X 25 rfl dL_stands_315 rfl h (fun h => ?_)
      refine g_icmp_ne (tgt := 347) X dL_stands_316 (by decide) rfl h (fun c_3 h => ?_) (fun c_3 h => ?_)
      · refine g_iconst (v := 0) X dL_stands_347 (by decide) rfl ?_
        refine g_wperm (ws' := (w_L_stands cA a_q0 a_q1 a_q2 a_q0_page a_q0_plan a_q0_air a_q0_trial a_q0_smoke a_q0_crew a_q0_now a_q0_kept a_q0_dream a_q0_draws a_q0_rescuers a_q0_page_letters a_q0_page_reader a_q0_plan_one a_q0_plan_two a_q0_plan_length a_q0_plan_draught a_q0_plan_one_cells a_q0_plan_two_cells a_q0_plan_length_cells a_q0_plan_draught_cells a_q0_air_height a_q0_air_into a_q0_air_nearest a_q0_air_height_cells a_q0_air_into_cells a_q0_crew_kinds a_q0_crew_kinds_cells a_q0_now_gas a_q0_now_place a_q0_now_gas_cells a_q0_now_place_cells u_q0_keptMine u_q0_keptMen n_q1 n_q2 c_q0_minesRead c_q0_doorsDone c_q0_page_length c_q0_plan_galleries c_q0_plan_doors c_q0_plan_shafts c_q0_plan_one c_q0_plan_two c_q0_plan_length c_q0_plan_draught c_q0_air_breathing c_q0_air_height c_q0_air_into c_q0_crew_size c_q0_crew_kinds c_q0_now_open c_q0_now_moon c_q0_now_out c_q0_now_gone c_q0_now_gas c_q0_now_place c_q1 c_q2)) [0, 1, 2, 3, 4, 5, 6, 7, 8, 9, 10, 11, 12, 13, 14, 15, 16, 17, 18, 19, 20, 21, 22, 23, 24, 25] rfl (by decide) ?_
        cases Option.some.inj h
        exact hret _ _ dL_stands_348 (nar_z (Or.inl rfl))
      · refine g_aload_n X 0 rfl rfl dL_stands_319 rfl ?_
        refine g_iconst (v := 4) X dL_stands_320 (by decide) rfl ?_
        obtain ⟨z_4, hz_4, h⟩ := bnd_s h
        refine g_callVI (rm := rm_X10_count) (As := [.int 4]) (r := z_4) (W0 := (w_X10_count cA a_q0 a_q0_page a_q0_plan a_q0_air a_q0_trial a_q0_smoke a_q0_crew a_q0_now a_q0_kept a_q0_dream a_q0_draws a_q0_rescuers a_q0_page_letters a_q0_page_reader a_q0_plan_one a_q0_plan_two a_q0_plan_length a_q0_plan_draught a_q0_crew_kinds a_q0_now_gas a_q0_now_place u_q0_keptMine u_q0_keptMen c_q0_now_open c_q0_now_out c_q0_minesRead c_q0_doorsDone c_q0_page_length c_q0_plan_galleries c_q0_plan_doors c_q0_plan_shafts c_q0_crew_size c_q0_now_moon c_q0_now_gone)) (W1 := (w_X10_count cA a_q0 a_q0_page a_q0_plan a_q0_air a_q0_trial a_q0_smoke a_q0_crew a_q0_now a_q0_kept a_q0_dream a_q0_draws a_q0_rescuers a_q0_page_letters a_q0_page_reader a_q0_plan_one a_q0_plan_two a_q0_plan_length a_q0_plan_draught a_q0_crew_kinds a_q0_now_gas a_q0_now_place u_q0_keptMine u_q0_keptMen c_q0_now_open c_q0_now_out c_q0_minesRead c_q0_doorsDone c_q0_page_length c_q0_plan_galleries c_q0_plan_doors c_q0_plan_shafts c_q0_crew_size c_q0_now_moon c_q0_now_gone)) (isC := [0, 1, 2, 16, 19]) (isR := [3, 4, 5, 6, 7, 8, 9, 10, 11, 12, 13, 14, 15, 17, 18, 20, 21, 22, 23, 24, 25, 26]) (perm := [22, 23, 24, 0, 1, 2, 3, 4, 5, 6, 7, 8, 9, 10, 11, 12, 25, 13, 14, 26, 15, 16, 17, 18, 19, 20, 21]) (ws' := (w_L_stands_n1 cA a_q0 a_q1 a_q2 a_n1 a_q0_page a_q0_plan a_q0_air a_q0_trial a_q0_smoke a_q0_crew a_q0_now a_q0_kept a_q0_dream a_q0_draws a_q0_rescuers a_q0_page_letters a_q0_page_reader a_q0_plan_one a_q0_plan_two a_q0_plan_length a_q0_plan_draught a_q0_plan_one_cells a_q0_plan_two_cells a_q0_plan_length_cells a_q0_plan_draught_cells a_q0_air_height a_q0_air_into a_q0_air_nearest a_q0_air_height_cells a_q0_air_into_cells a_q0_crew_kinds a_q0_crew_kinds_cells a_q0_now_gas a_q0_now_place a_q0_now_gas_cells a_q0_now_place_cells u_q0_keptMine u_q0_keptMen n_q1 n_q2 c_q0_minesRead c_q0_doorsDone c_q0_page_length c_q0_plan_galleries c_q0_plan_doors c_q0_plan_shafts c_q0_plan_one c_q0_plan_two c_q0_plan_length c_q0_plan_draught c_q0_air_breathing c_q0_air_height c_q0_air_into c_q0_crew_size c_q0_crew_kinds c_q0_now_open c_q0_now_moon c_q0_now_out c_q0_now_gone c_q0_now_gas c_q0_now_place c_q1 c_q2 c_n1)) X (c_X10_count l D cA a_q0 a_q0_page a_q0_plan a_q0_air a_q0_trial a_q0_smoke a_q0_crew a_q0_now a_q0_kept a_q0_dream a_q0_draws a_q0_rescuers a_q0_page_letters a_q0_page_reader a_q0_plan_one a_q0_plan_two a_q0_plan_length a_q0_plan_draught a_q0_crew_kinds a_q0_now_gas a_q0_now_place u_q0_keptMine u_q0_keptMen c_q0_now_open c_q0_now_out c_q0_minesRead c_q0_doorsDone c_q0_page_length c_q0_plan_galleries c_q0_plan_doors c_q0_plan_shafts c_q0_crew_size c_q0_now_moon c_q0_now_gone 4 _ hz_4) 0 rfl rfl rfl gL_stands_X10_count rfl rfl rfl ⟨rfl, hd_X10_count⟩ ⟨Nat.le_of_ble_eq_true rfl, Nat.le_of_ble_eq_true rfl⟩ rfl rfl (Nat.le_of_ble_eq_true rfl) rfl (by decide +kernel) rfl (by decide +kernel) (by decide +kernel) (by decide) rfl (by decide +kernel) dL_stands_321 rfl ?_
        refine g_aload_n X 1 rfl rfl dL_stands_324 rfl ?_
        refine g_bipush (v := 51) X dL_stands_325 (by decide) rfl ?_
        refine g_iald X 24 rfl dL_stands_327 rfl h (fun h => ?_)
        refine g_icmp_ne (tgt := 347) X dL_stands_328 (by decide) rfl h (fun c_5 h => ?_) (fun c_5 h => ?_)
        · refine g_iconst (v := 0) X dL_stands_347 (by decide) rfl ?_
          refine g_wperm (ws' := (w_L_stands cA a_q0 a_q1 a_q2 a_q0_page a_q0_plan a_q0_air a_q0_trial a_q0_smoke a_q0_crew a_q0_now a_q0_kept a_q0_dream a_q0_draws a_q0_rescuers a_q0_page_letters a_q0_page_reader a_q0_plan_one a_q0_plan_two a_q0_plan_length a_q0_plan_draught a_q0_plan_one_cells a_q0_plan_two_cells a_q0_plan_length_cells a_q0_plan_draught_cells a_q0_air_height a_q0_air_into a_q0_air_nearest a_q0_air_height_cells a_q0_air_into_cells a_q0_crew_kinds a_q0_crew_kinds_cells a_q0_now_gas a_q0_now_place a_q0_now_gas_cells a_q0_now_place_cells u_q0_keptMine u_q0_keptMen n_q1 n_q2 c_q0_minesRead c_q0_doorsDone c_q0_page_length c_q0_plan_galleries c_q0_plan_doors c_q0_plan_shafts c_q0_plan_one c_q0_plan_two c_q0_plan_length c_q0_plan_draught c_q0_air_breathing c_q0_air_height c_q0_air_into c_q0_crew_size c_q0_crew_kinds c_q0_now_open c_q0_now_moon c_q0_now_out c_q0_now_gone c_q0_now_gas c_q0_now_place c_q1 c_q2)) [0, 1, 2, 3, 4, 5, 6, 7, 8, 9, 10, 11, 12, 13, 14, 15, 16, 17, 18, 19, 20, 21, 22, 23, 24, 25] rfl (by decide) ?_
          cases Option.some.inj h
          exact hret _ _ dL_stands_348 (nar_z (Or.inl rfl))
        · refine g_aload_n X 0 rfl rfl dL_stands_331 rfl ?_
          refine g_iconst (v := 5) X dL_stands_332 (by decide) rfl ?_
          obtain ⟨z_6, hz_6, h⟩ := bnd_s h
          refine g_callVI (rm := rm_X10_count) (As := [.int 5]) (r := z_6) (W0 := (w_X10_count cA a_q0 a_q0_page a_q0_plan a_q0_air a_q0_trial a_q0_smoke a_q0_crew a_q0_now a_q0_kept a_q0_dream a_q0_draws a_q0_rescuers a_q0_page_letters a_q0_page_reader a_q0_plan_one a_q0_plan_two a_q0_plan_length a_q0_plan_draught a_q0_crew_kinds a_q0_now_gas a_q0_now_place u_q0_keptMine u_q0_keptMen c_q0_now_open c_q0_now_out c_q0_minesRead c_q0_doorsDone c_q0_page_length c_q0_plan_galleries c_q0_plan_doors c_q0_plan_shafts c_q0_crew_size c_q0_now_moon c_q0_now_gone)) (W1 := (w_X10_count cA a_q0 a_q0_page a_q0_plan a_q0_air a_q0_trial a_q0_smoke a_q0_crew a_q0_now a_q0_kept a_q0_dream a_q0_draws a_q0_rescuers a_q0_page_letters a_q0_page_reader a_q0_plan_one a_q0_plan_two a_q0_plan_length a_q0_plan_draught a_q0_crew_kinds a_q0_now_gas a_q0_now_place u_q0_keptMine u_q0_keptMen c_q0_now_open c_q0_now_out c_q0_minesRead c_q0_doorsDone c_q0_page_length c_q0_plan_galleries c_q0_plan_doors c_q0_plan_shafts c_q0_crew_size c_q0_now_moon c_q0_now_gone)) (isC := [0, 1, 2, 16, 19]) (isR := [3, 4, 5, 6, 7, 8, 9, 10, 11, 12, 13, 14, 15, 17, 18, 20, 21, 22, 23, 24, 25, 26]) (perm := [22, 23, 24, 0, 1, 2, 3, 4, 5, 6, 7, 8, 9, 10, 11, 12, 25, 13, 14, 26, 15, 16, 17, 18, 19, 20, 21]) (ws' := (w_L_stands_n1 cA a_q0 a_q1 a_q2 a_n1 a_q0_page a_q0_plan a_q0_air a_q0_trial a_q0_smoke a_q0_crew a_q0_now a_q0_kept a_q0_dream a_q0_draws a_q0_rescuers a_q0_page_letters a_q0_page_reader a_q0_plan_one a_q0_plan_two a_q0_plan_length a_q0_plan_draught a_q0_plan_one_cells a_q0_plan_two_cells a_q0_plan_length_cells a_q0_plan_draught_cells a_q0_air_height a_q0_air_into a_q0_air_nearest a_q0_air_height_cells a_q0_air_into_cells a_q0_crew_kinds a_q0_crew_kinds_cells a_q0_now_gas a_q0_now_place a_q0_now_gas_cells a_q0_now_place_cells u_q0_keptMine u_q0_keptMen n_q1 n_q2 c_q0_minesRead c_q0_doorsDone c_q0_page_length c_q0_plan_galleries c_q0_plan_doors c_q0_plan_shafts c_q0_plan_one c_q0_plan_two c_q0_plan_length c_q0_plan_draught c_q0_air_breathing c_q0_air_height c_q0_air_into c_q0_crew_size c_q0_crew_kinds c_q0_now_open c_q0_now_moon c_q0_now_out c_q0_now_gone c_q0_now_gas c_q0_now_place c_q1 c_q2 c_n1)) X (c_X10_count l D cA a_q0 a_q0_page a_q0_plan a_q0_air a_q0_trial a_q0_smoke a_q0_crew a_q0_now a_q0_kept a_q0_dream a_q0_draws a_q0_rescuers a_q0_page_letters a_q0_page_reader a_q0_plan_one a_q0_plan_two a_q0_plan_length a_q0_plan_draught a_q0_crew_kinds a_q0_now_gas a_q0_now_place u_q0_keptMine u_q0_keptMen c_q0_now_open c_q0_now_out c_q0_minesRead c_q0_doorsDone c_q0_page_length c_q0_plan_galleries c_q0_plan_doors c_q0_plan_shafts c_q0_crew_size c_q0_now_moon c_q0_now_gone 5 _ hz_6) 0 rfl rfl rfl gL_stands_X10_count rfl rfl rfl ⟨rfl, hd_X10_count⟩ ⟨Nat.le_of_ble_eq_true rfl, Nat.le_of_ble_eq_true rfl⟩ rfl rfl (Nat.le_of_ble_eq_true rfl) rfl (by decide +kernel) rfl (by decide +kernel) (by decide +kernel) (by decide) rfl (by decide +kernel) dL_stands_333 rfl ?_
          refine g_aload_n X 2 rfl rfl dL_stands_336 rfl ?_
          refine g_bipush (v := 21) X dL_stands_337 (by decide) rfl ?_
          refine g_iald X 25 rfl dL_stands_339 rfl h (fun h => ?_)
          refine g_icmp_ne (tgt := 347) X dL_stands_340 (by decide) rfl h (fun c_7 h => ?_) (fun c_7 h => ?_)
          · refine g_iconst (v := 0) X dL_stands_347 (by decide) rfl ?_
            refine g_wperm (ws' := (w_L_stands cA a_q0 a_q1 a_q2 a_q0_page a_q0_plan a_q0_air a_q0_trial a_q0_smoke a_q0_crew a_q0_now a_q0_kept a_q0_dream a_q0_draws a_q0_rescuers a_q0_page_letters a_q0_page_reader a_q0_plan_one a_q0_plan_two a_q0_plan_length a_q0_plan_draught a_q0_plan_one_cells a_q0_plan_two_cells a_q0_plan_length_cells a_q0_plan_draught_cells a_q0_air_height a_q0_air_into a_q0_air_nearest a_q0_air_height_cells a_q0_air_into_cells a_q0_crew_kinds a_q0_crew_kinds_cells a_q0_now_gas a_q0_now_place a_q0_now_gas_cells a_q0_now_place_cells u_q0_keptMine u_q0_keptMen n_q1 n_q2 c_q0_minesRead c_q0_doorsDone c_q0_page_length c_q0_plan_galleries c_q0_plan_doors c_q0_plan_shafts c_q0_plan_one c_q0_plan_two c_q0_plan_length c_q0_plan_draught c_q0_air_breathing c_q0_air_height c_q0_air_into c_q0_crew_size c_q0_crew_kinds c_q0_now_open c_q0_now_moon c_q0_now_out c_q0_now_gone c_q0_now_gas c_q0_now_place c_q1 c_q2)) [0, 1, 2, 3, 4, 5, 6, 7, 8, 9, 10, 11, 12, 13, 14, 15, 16, 17, 18, 19, 20, 21, 22, 23, 24, 25] rfl (by decide) ?_
            cases Option.some.inj h
            exact hret _ _ dL_stands_348 (nar_z (Or.inl rfl))
          · refine g_iconst (v := 1) X dL_stands_343 (by decide) rfl ?_
            refine g_goto (tgt := 348) X dL_stands_344 (by decide) ?_
            refine g_wperm (ws' := (w_L_stands cA a_q0 a_q1 a_q2 a_q0_page a_q0_plan a_q0_air a_q0_trial a_q0_smoke a_q0_crew a_q0_now a_q0_kept a_q0_dream a_q0_draws a_q0_rescuers a_q0_page_letters a_q0_page_reader a_q0_plan_one a_q0_plan_two a_q0_plan_length a_q0_plan_draught a_q0_plan_one_cells a_q0_plan_two_cells a_q0_plan_length_cells a_q0_plan_draught_cells a_q0_air_height a_q0_air_into a_q0_air_nearest a_q0_air_height_cells a_q0_air_into_cells a_q0_crew_kinds a_q0_crew_kinds_cells a_q0_now_gas a_q0_now_place a_q0_now_gas_cells a_q0_now_place_cells u_q0_keptMine u_q0_keptMen n_q1 n_q2 c_q0_minesRead c_q0_doorsDone c_q0_page_length c_q0_plan_galleries c_q0_plan_doors c_q0_plan_shafts c_q0_plan_one c_q0_plan_two c_q0_plan_length c_q0_plan_draught c_q0_air_breathing c_q0_air_height c_q0_air_into c_q0_crew_size c_q0_crew_kinds c_q0_now_open c_q0_now_moon c_q0_now_out c_q0_now_gone c_q0_now_gas c_q0_now_place c_q1 c_q2)) [0, 1, 2, 3, 4, 5, 6, 7, 8, 9, 10, 11, 12, 13, 14, 15, 16, 17, 18, 19, 20, 21, 22, 23, 24, 25] rfl (by decide) ?_
            cases Option.some.inj h
            exact hret _ _ dL_stands_348 (nar_z (Or.inr rfl))
    · refine g_aload_n X 0 rfl rfl dL_stands_226 rfl ?_
      refine g_iload X 3 rfl dL_stands_227 rfl ?_
      refine g_iconst (v := 0) X dL_stands_229 (by decide) rfl ?_
      obtain ⟨z_8, hz_8, h⟩ := bnd_s h
      refine g_callVI (rm := rm_X10_about) (As := [.int v4, .int 0]) (r := z_8) (W0 := (w_X10_about cA a_q0 a_q0_page a_q0_plan a_q0_air a_q0_trial a_q0_smoke a_q0_crew a_q0_now a_q0_kept a_q0_dream a_q0_draws a_q0_rescuers a_q0_crew_kinds a_q0_crew_kinds_cells a_q0_now_gas a_q0_now_place a_q0_now_place_cells c_q0_minesRead c_q0_doorsDone u_q0_keptMine u_q0_keptMen c_q0_now_open c_q0_now_moon c_q0_now_gone c_q0_crew_size c_q0_crew_kinds c_q0_now_out c_q0_now_place)) (W1 := (w_X10_about cA a_q0 a_q0_page a_q0_plan a_q0_air a_q0_trial a_q0_smoke a_q0_crew a_q0_now a_q0_kept a_q0_dream a_q0_draws a_q0_rescuers a_q0_crew_kinds a_q0_crew_kinds_cells a_q0_now_gas a_q0_now_place a_q0_now_place_cells c_q0_minesRead c_q0_doorsDone u_q0_keptMine u_q0_keptMen c_q0_now_open c_q0_now_moon c_q0_now_gone c_q0_crew_size c_q0_crew_kinds c_q0_now_out c_q0_now_place)) (isC := [0, 16, 17, 18, 19, 22, 23]) (isR := [1, 2, 3, 4, 5, 6, 7, 8, 9, 10, 11, 12, 13, 14, 15, 20, 21, 24, 25, 26]) (perm := [20, 0, 1, 2, 3, 4, 5, 6, 7, 8, 9, 10, 11, 12, 13, 14, 21, 22, 23, 24, 15, 16, 25, 26, 17, 18, 19]) (ws' := (w_L_stands_n1 cA a_q0 a_q1 a_q2 a_n1 a_q0_page a_q0_plan a_q0_air a_q0_trial a_q0_smoke a_q0_crew a_q0_now a_q0_kept a_q0_dream a_q0_draws a_q0_rescuers a_q0_page_letters a_q0_page_reader a_q0_plan_one a_q0_plan_two a_q0_plan_length a_q0_plan_draught a_q0_plan_one_cells a_q0_plan_two_cells a_q0_plan_length_cells a_q0_plan_draught_cells a_q0_air_height a_q0_air_into a_q0_air_nearest a_q0_air_height_cells a_q0_air_into_cells a_q0_crew_kinds a_q0_crew_kinds_cells a_q0_now_gas a_q0_now_place a_q0_now_gas_cells a_q0_now_place_cells u_q0_keptMine u_q0_keptMen n_q1 n_q2 c_q0_minesRead c_q0_doorsDone c_q0_page_length c_q0_plan_galleries c_q0_plan_doors c_q0_plan_shafts c_q0_plan_one c_q0_plan_two c_q0_plan_length c_q0_plan_draught c_q0_air_breathing c_q0_air_height c_q0_air_into c_q0_crew_size c_q0_crew_kinds c_q0_now_open c_q0_now_moon c_q0_now_out c_q0_now_gone c_q0_now_gas c_q0_now_place c_q1 c_q2 c_n1)) X (c_X10_about l D cA a_q0 a_q0_page a_q0_plan a_q0_air a_q0_trial a_q0_smoke a_q0_crew a_q0_now a_q0_kept a_q0_dream a_q0_draws a_q0_rescuers a_q0_crew_kinds a_q0_crew_kinds_cells a_q0_now_gas a_q0_now_place a_q0_now_place_cells c_q0_minesRead c_q0_doorsDone u_q0_keptMine u_q0_keptMen c_q0_now_open c_q0_now_moon c_q0_now_gone c_q0_crew_size c_q0_crew_kinds c_q0_now_out c_q0_now_place v4 0 _ hz_8) 0 rfl rfl rfl gL_stands_X10_about rfl rfl rfl ⟨rfl, hd_X10_about⟩ ⟨Nat.le_of_ble_eq_true rfl, Nat.le_of_ble_eq_true rfl⟩ rfl rfl (Nat.le_of_ble_eq_true rfl) rfl (by decide +kernel) rfl (by decide +kernel) (by decide +kernel) (by decide) rfl (by decide +kernel) dL_stands_230 rfl ?_
      refine g_aload_n X 2 rfl rfl dL_stands_233 rfl ?_
      refine g_bipush (v := 7) X dL_stands_234 (by decide) rfl ?_
      refine g_iload X 3 rfl dL_stands_236 rfl ?_
      refine g_iadd X dL_stands_238 rfl ?_
      refine g_iald X 25 rfl dL_stands_239 rfl h (fun h => ?_)
      refine g_icmp_ne (tgt := 299) X dL_stands_240 (by decide) rfl h (fun c_9 h => ?_) (fun c_9 h => ?_)
      · refine g_iconst (v := 0) X dL_stands_299 (by decide) rfl ?_
        refine g_wperm (ws' := (w_L_stands cA a_q0 a_q1 a_q2 a_q0_page a_q0_plan a_q0_air a_q0_trial a_q0_smoke a_q0_crew a_q0_now a_q0_kept a_q0_dream a_q0_draws a_q0_rescuers a_q0_page_letters a_q0_page_reader a_q0_plan_one a_q0_plan_two a_q0_plan_length a_q0_plan_draught a_q0_plan_one_cells a_q0_plan_two_cells a_q0_plan_length_cells a_q0_plan_draught_cells a_q0_air_height a_q0_air_into a_q0_air_nearest a_q0_air_height_cells a_q0_air_into_cells a_q0_crew_kinds a_q0_crew_kinds_cells a_q0_now_gas a_q0_now_place a_q0_now_gas_cells a_q0_now_place_cells u_q0_keptMine u_q0_keptMen n_q1 n_q2 c_q0_minesRead c_q0_doorsDone c_q0_page_length c_q0_plan_galleries c_q0_plan_doors c_q0_plan_shafts c_q0_plan_one c_q0_plan_two c_q0_plan_length c_q0_plan_draught c_q0_air_breathing c_q0_air_height c_q0_air_into c_q0_crew_size c_q0_crew_kinds c_q0_now_open c_q0_now_moon c_q0_now_out c_q0_now_gone c_q0_now_gas c_q0_now_place c_q1 c_q2)) [0, 1, 2, 3, 4, 5, 6, 7, 8, 9, 10, 11, 12, 13, 14, 15, 16, 17, 18, 19, 20, 21, 22, 23, 24, 25] rfl (by decide) ?_
        cases Option.some.inj h
        exact hret _ _ dL_stands_300 (nar_z (Or.inl rfl))
      · refine g_aload_n X 0 rfl rfl dL_stands_243 rfl ?_
        refine g_iload X 3 rfl dL_stands_244 rfl ?_
        refine g_iconst (v := 1) X dL_stands_246 (by decide) rfl ?_
        obtain ⟨z_10, hz_10, h⟩ := bnd_s h
        refine g_callVI (rm := rm_X10_about) (As := [.int v4, .int 1]) (r := z_10) (W0 := (w_X10_about cA a_q0 a_q0_page a_q0_plan a_q0_air a_q0_trial a_q0_smoke a_q0_crew a_q0_now a_q0_kept a_q0_dream a_q0_draws a_q0_rescuers a_q0_crew_kinds a_q0_crew_kinds_cells a_q0_now_gas a_q0_now_place a_q0_now_place_cells c_q0_minesRead c_q0_doorsDone u_q0_keptMine u_q0_keptMen c_q0_now_open c_q0_now_moon c_q0_now_gone c_q0_crew_size c_q0_crew_kinds c_q0_now_out c_q0_now_place)) (W1 := (w_X10_about cA a_q0 a_q0_page a_q0_plan a_q0_air a_q0_trial a_q0_smoke a_q0_crew a_q0_now a_q0_kept a_q0_dream a_q0_draws a_q0_rescuers a_q0_crew_kinds a_q0_crew_kinds_cells a_q0_now_gas a_q0_now_place a_q0_now_place_cells c_q0_minesRead c_q0_doorsDone u_q0_keptMine u_q0_keptMen c_q0_now_open c_q0_now_moon c_q0_now_gone c_q0_crew_size c_q0_crew_kinds c_q0_now_out c_q0_now_place)) (isC := [0, 16, 17, 18, 19, 22, 23]) (isR := [1, 2, 3, 4, 5, 6, 7, 8, 9, 10, 11, 12, 13, 14, 15, 20, 21, 24, 25, 26]) (perm := [20, 0, 1, 2, 3, 4, 5, 6, 7, 8, 9, 10, 11, 12, 13, 14, 21, 22, 23, 24, 15, 16, 25, 26, 17, 18, 19]) (ws' := (w_L_stands_n1 cA a_q0 a_q1 a_q2 a_n1 a_q0_page a_q0_plan a_q0_air a_q0_trial a_q0_smoke a_q0_crew a_q0_now a_q0_kept a_q0_dream a_q0_draws a_q0_rescuers a_q0_page_letters a_q0_page_reader a_q0_plan_one a_q0_plan_two a_q0_plan_length a_q0_plan_draught a_q0_plan_one_cells a_q0_plan_two_cells a_q0_plan_length_cells a_q0_plan_draught_cells a_q0_air_height a_q0_air_into a_q0_air_nearest a_q0_air_height_cells a_q0_air_into_cells a_q0_crew_kinds a_q0_crew_kinds_cells a_q0_now_gas a_q0_now_place a_q0_now_gas_cells a_q0_now_place_cells u_q0_keptMine u_q0_keptMen n_q1 n_q2 c_q0_minesRead c_q0_doorsDone c_q0_page_length c_q0_plan_galleries c_q0_plan_doors c_q0_plan_shafts c_q0_plan_one c_q0_plan_two c_q0_plan_length c_q0_plan_draught c_q0_air_breathing c_q0_air_height c_q0_air_into c_q0_crew_size c_q0_crew_kinds c_q0_now_open c_q0_now_moon c_q0_now_out c_q0_now_gone c_q0_now_gas c_q0_now_place c_q1 c_q2 c_n1)) X (c_X10_about l D cA a_q0 a_q0_page a_q0_plan a_q0_air a_q0_trial a_q0_smoke a_q0_crew a_q0_now a_q0_kept a_q0_dream a_q0_draws a_q0_rescuers a_q0_crew_kinds a_q0_crew_kinds_cells a_q0_now_gas a_q0_now_place a_q0_now_place_cells c_q0_minesRead c_q0_doorsDone u_q0_keptMine u_q0_keptMen c_q0_now_open c_q0_now_moon c_q0_now_gone c_q0_crew_size c_q0_crew_kinds c_q0_now_out c_q0_now_place v4 1 _ hz_10) 0 rfl rfl rfl gL_stands_X10_about rfl rfl rfl ⟨rfl, hd_X10_about⟩ ⟨Nat.le_of_ble_eq_true rfl, Nat.le_of_ble_eq_true rfl⟩ rfl rfl (Nat.le_of_ble_eq_true rfl) rfl (by decide +kernel) rfl (by decide +kernel) (by decide +kernel) (by decide) rfl (by decide +kernel) dL_stands_247 rfl ?_
        refine g_aload_n X 2 rfl rfl dL_stands_250 rfl ?_
        refine g_bipush (v := 13) X dL_stands_251 (by decide) rfl ?_
        refine g_iload X 3 rfl dL_stands_253 rfl ?_
        refine g_iadd X dL_stands_255 rfl ?_
        refine g_iald X 25 rfl dL_stands_256 rfl h (fun h => ?_)
        refine g_icmp_ne (tgt := 299) X dL_stands_257 (by decide) rfl h (fun c_11 h => ?_) (fun c_11 h => ?_)
        · refine g_iconst (v := 0) X dL_stands_299 (by decide) rfl ?_
          refine g_wperm (ws' := (w_L_stands cA a_q0 a_q1 a_q2 a_q0_page a_q0_plan a_q0_air a_q0_trial a_q0_smoke a_q0_crew a_q0_now a_q0_kept a_q0_dream a_q0_draws a_q0_rescuers a_q0_page_letters a_q0_page_reader a_q0_plan_one a_q0_plan_two a_q0_plan_length a_q0_plan_draught a_q0_plan_one_cells a_q0_plan_two_cells a_q0_plan_length_cells a_q0_plan_draught_cells a_q0_air_height a_q0_air_into a_q0_air_nearest a_q0_air_height_cells a_q0_air_into_cells a_q0_crew_kinds a_q0_crew_kinds_cells a_q0_now_gas a_q0_now_place a_q0_now_gas_cells a_q0_now_place_cells u_q0_keptMine u_q0_keptMen n_q1 n_q2 c_q0_minesRead c_q0_doorsDone c_q0_page_length c_q0_plan_galleries c_q0_plan_doors c_q0_plan_shafts c_q0_plan_one c_q0_plan_two c_q0_plan_length c_q0_plan_draught c_q0_air_breathing c_q0_air_height c_q0_air_into c_q0_crew_size c_q0_crew_kinds c_q0_now_open c_q0_now_moon c_q0_now_out c_q0_now_gone c_q0_now_gas c_q0_now_place c_q1 c_q2)) [0, 1, 2, 3, 4, 5, 6, 7, 8, 9, 10, 11, 12, 13, 14, 15, 16, 17, 18, 19, 20, 21, 22, 23, 24, 25] rfl (by decide) ?_
          cases Option.some.inj h
          exact hret _ _ dL_stands_300 (nar_z (Or.inl rfl))
        · refine g_aload_n X 0 rfl rfl dL_stands_260 rfl ?_
          refine g_iload X 3 rfl dL_stands_261 rfl ?_
          refine g_iconst (v := 2) X dL_stands_263 (by decide) rfl ?_
          obtain ⟨z_12, hz_12, h⟩ := bnd_s h
          refine g_callVI (rm := rm_X10_about) (As := [.int v4, .int 2]) (r := z_12) (W0 := (w_X10_about cA a_q0 a_q0_page a_q0_plan a_q0_air a_q0_trial a_q0_smoke a_q0_crew a_q0_now a_q0_kept a_q0_dream a_q0_draws a_q0_rescuers a_q0_crew_kinds a_q0_crew_kinds_cells a_q0_now_gas a_q0_now_place a_q0_now_place_cells c_q0_minesRead c_q0_doorsDone u_q0_keptMine u_q0_keptMen c_q0_now_open c_q0_now_moon c_q0_now_gone c_q0_crew_size c_q0_crew_kinds c_q0_now_out c_q0_now_place)) (W1 := (w_X10_about cA a_q0 a_q0_page a_q0_plan a_q0_air a_q0_trial a_q0_smoke a_q0_crew a_q0_now a_q0_kept a_q0_dream a_q0_draws a_q0_rescuers a_q0_crew_kinds a_q0_crew_kinds_cells a_q0_now_gas a_q0_now_place a_q0_now_place_cells c_q0_minesRead c_q0_doorsDone u_q0_keptMine u_q0_keptMen c_q0_now_open c_q0_now_moon c_q0_now_gone c_q0_crew_size c_q0_crew_kinds c_q0_now_out c_q0_now_place)) (isC := [0, 16, 17, 18, 19, 22, 23]) (isR := [1, 2, 3, 4, 5, 6, 7, 8, 9, 10, 11, 12, 13, 14, 15, 20, 21, 24, 25, 26]) (perm := [20, 0, 1, 2, 3, 4, 5, 6, 7, 8, 9, 10, 11, 12, 13, 14, 21, 22, 23, 24, 15, 16, 25, 26, 17, 18, 19]) (ws' := (w_L_stands_n1 cA a_q0 a_q1 a_q2 a_n1 a_q0_page a_q0_plan a_q0_air a_q0_trial a_q0_smoke a_q0_crew a_q0_now a_q0_kept a_q0_dream a_q0_draws a_q0_rescuers a_q0_page_letters a_q0_page_reader a_q0_plan_one a_q0_plan_two a_q0_plan_length a_q0_plan_draught a_q0_plan_one_cells a_q0_plan_two_cells a_q0_plan_length_cells a_q0_plan_draught_cells a_q0_air_height a_q0_air_into a_q0_air_nearest a_q0_air_height_cells a_q0_air_into_cells a_q0_crew_kinds a_q0_crew_kinds_cells a_q0_now_gas a_q0_now_place a_q0_now_gas_cells a_q0_now_place_cells u_q0_keptMine u_q0_keptMen n_q1 n_q2 c_q0_minesRead c_q0_doorsDone c_q0_page_length c_q0_plan_galleries c_q0_plan_doors c_q0_plan_shafts c_q0_plan_one c_q0_plan_two c_q0_plan_length c_q0_plan_draught c_q0_air_breathing c_q0_air_height c_q0_air_into c_q0_crew_size c_q0_crew_kinds c_q0_now_open c_q0_now_moon c_q0_now_out c_q0_now_gone c_q0_now_gas c_q0_now_place c_q1 c_q2 c_n1)) X (c_X10_about l D cA a_q0 a_q0_page a_q0_plan a_q0_air a_q0_trial a_q0_smoke a_q0_crew a_q0_now a_q0_kept a_q0_dream a_q0_draws a_q0_rescuers a_q0_crew_kinds a_q0_crew_kinds_cells a_q0_now_gas a_q0_now_place a_q0_now_place_cells c_q0_minesRead c_q0_doorsDone u_q0_keptMine u_q0_keptMen c_q0_now_open c_q0_now_moon c_q0_now_gone c_q0_crew_size c_q0_crew_kinds c_q0_now_out c_q0_now_place v4 2 _ hz_12) 0 rfl rfl rfl gL_stands_X10_about rfl rfl rfl ⟨rfl, hd_X10_about⟩ ⟨Nat.le_of_ble_eq_true rfl, Nat.le_of_ble_eq_true rfl⟩ rfl rfl (Nat.le_of_ble_eq_true rfl) rfl (by decide +kernel) rfl (by decide +kernel) (by decide +kernel) (by decide) rfl (by decide +kernel) dL_stands_264 rfl ?_
          refine g_aload_n X 2 rfl rfl dL_stands_267 rfl ?_
          refine g_bipush (v := 19) X dL_stands_268 (by decide) rfl ?_
          refine g_iald X 25 rfl dL_stands_270 rfl h (fun h => ?_)
          refine g_iload X 3 rfl dL_stands_271 rfl ?_
          refine g_ishr X dL_stands_273 rfl ?_
          refine g_iconst (v := 1) X dL_stands_274 (by decide) rfl ?_
          refine g_iand X dL_stands_275 rfl ?_
          refine g_icmp_ne (tgt := 299) X dL_stands_276 (by decide) rfl h (fun c_13 h => ?_) (fun c_13 h => ?_)
          · refine g_iconst (v := 0) X dL_stands_299 (by decide) rfl ?_
            refine g_wperm (ws' := (w_L_stands cA a_q0 a_q1 a_q2 a_q0_page a_q0_plan a_q0_air a_q0_trial a_q0_smoke a_q0_crew a_q0_now a_q0_kept a_q0_dream a_q0_draws a_q0_rescuers a_q0_page_letters a_q0_page_reader a_q0_plan_one a_q0_plan_two a_q0_plan_length a_q0_plan_draught a_q0_plan_one_cells a_q0_plan_two_cells a_q0_plan_length_cells a_q0_plan_draught_cells a_q0_air_height a_q0_air_into a_q0_air_nearest a_q0_air_height_cells a_q0_air_into_cells a_q0_crew_kinds a_q0_crew_kinds_cells a_q0_now_gas a_q0_now_place a_q0_now_gas_cells a_q0_now_place_cells u_q0_keptMine u_q0_keptMen n_q1 n_q2 c_q0_minesRead c_q0_doorsDone c_q0_page_length c_q0_plan_galleries c_q0_plan_doors c_q0_plan_shafts c_q0_plan_one c_q0_plan_two c_q0_plan_length c_q0_plan_draught c_q0_air_breathing c_q0_air_height c_q0_air_into c_q0_crew_size c_q0_crew_kinds c_q0_now_open c_q0_now_moon c_q0_now_out c_q0_now_gone c_q0_now_gas c_q0_now_place c_q1 c_q2)) [0, 1, 2, 3, 4, 5, 6, 7, 8, 9, 10, 11, 12, 13, 14, 15, 16, 17, 18, 19, 20, 21, 22, 23, 24, 25] rfl (by decide) ?_
            cases Option.some.inj h
            exact hret _ _ dL_stands_300 (nar_z (Or.inl rfl))
          · refine g_aload_n X 0 rfl rfl dL_stands_279 rfl ?_
            refine g_iload X 3 rfl dL_stands_280 rfl ?_
            refine g_iconst (v := 3) X dL_stands_282 (by decide) rfl ?_
            obtain ⟨z_14, hz_14, h⟩ := bnd_s h
            refine g_callVI (rm := rm_X10_about) (As := [.int v4, .int 3]) (r := z_14) (W0 := (w_X10_about cA a_q0 a_q0_page a_q0_plan a_q0_air a_q0_trial a_q0_smoke a_q0_crew a_q0_now a_q0_kept a_q0_dream a_q0_draws a_q0_rescuers a_q0_crew_kinds a_q0_crew_kinds_cells a_q0_now_gas a_q0_now_place a_q0_now_place_cells c_q0_minesRead c_q0_doorsDone u_q0_keptMine u_q0_keptMen c_q0_now_open c_q0_now_moon c_q0_now_gone c_q0_crew_size c_q0_crew_kinds c_q0_now_out c_q0_now_place)) (W1 := (w_X10_about cA a_q0 a_q0_page a_q0_plan a_q0_air a_q0_trial a_q0_smoke a_q0_crew a_q0_now a_q0_kept a_q0_dream a_q0_draws a_q0_rescuers a_q0_crew_kinds a_q0_crew_kinds_cells a_q0_now_gas a_q0_now_place a_q0_now_place_cells c_q0_minesRead c_q0_doorsDone u_q0_keptMine u_q0_keptMen c_q0_now_open c_q0_now_moon c_q0_now_gone c_q0_crew_size c_q0_crew_kinds c_q0_now_out c_q0_now_place)) (isC := [0, 16, 17, 18, 19, 22, 23]) (isR := [1, 2, 3, 4, 5, 6, 7, 8, 9, 10, 11, 12, 13, 14, 15, 20, 21, 24, 25, 26]) (perm := [20, 0, 1, 2, 3, 4, 5, 6, 7, 8, 9, 10, 11, 12, 13, 14, 21, 22, 23, 24, 15, 16, 25, 26, 17, 18, 19]) (ws' := (w_L_stands_n1 cA a_q0 a_q1 a_q2 a_n1 a_q0_page a_q0_plan a_q0_air a_q0_trial a_q0_smoke a_q0_crew a_q0_now a_q0_kept a_q0_dream a_q0_draws a_q0_rescuers a_q0_page_letters a_q0_page_reader a_q0_plan_one a_q0_plan_two a_q0_plan_length a_q0_plan_draught a_q0_plan_one_cells a_q0_plan_two_cells a_q0_plan_length_cells a_q0_plan_draught_cells a_q0_air_height a_q0_air_into a_q0_air_nearest a_q0_air_height_cells a_q0_air_into_cells a_q0_crew_kinds a_q0_crew_kinds_cells a_q0_now_gas a_q0_now_place a_q0_now_gas_cells a_q0_now_place_cells u_q0_keptMine u_q0_keptMen n_q1 n_q2 c_q0_minesRead c_q0_doorsDone c_q0_page_length c_q0_plan_galleries c_q0_plan_doors c_q0_plan_shafts c_q0_plan_one c_q0_plan_two c_q0_plan_length c_q0_plan_draught c_q0_air_breathing c_q0_air_height c_q0_air_into c_q0_crew_size c_q0_crew_kinds c_q0_now_open c_q0_now_moon c_q0_now_out c_q0_now_gone c_q0_now_gas c_q0_now_place c_q1 c_q2 c_n1)) X (c_X10_about l D cA a_q0 a_q0_page a_q0_plan a_q0_air a_q0_trial a_q0_smoke a_q0_crew a_q0_now a_q0_kept a_q0_dream a_q0_draws a_q0_rescuers a_q0_crew_kinds a_q0_crew_kinds_cells a_q0_now_gas a_q0_now_place a_q0_now_place_cells c_q0_minesRead c_q0_doorsDone u_q0_keptMine u_q0_keptMen c_q0_now_open c_q0_now_moon c_q0_now_gone c_q0_crew_size c_q0_crew_kinds c_q0_now_out c_q0_now_place v4 3 _ hz_14) 0 rfl rfl rfl gL_stands_X10_about rfl rfl rfl ⟨rfl, hd_X10_about⟩ ⟨Nat.le_of_ble_eq_true rfl, Nat.le_of_ble_eq_true rfl⟩ rfl rfl (Nat.le_of_ble_eq_true rfl) rfl (by decide +kernel) rfl (by decide +kernel) (by decide +kernel) (by decide) rfl (by decide +kernel) dL_stands_283 rfl ?_
            refine g_aload_n X 2 rfl rfl dL_stands_286 rfl ?_
            refine g_bipush (v := 7) X dL_stands_287 (by decide) rfl ?_
            refine g_iload X 3 rfl dL_stands_289 rfl ?_
            refine g_iadd X dL_stands_291 rfl ?_
            refine g_iald X 25 rfl dL_stands_292 rfl h (fun h => ?_)
            obtain ⟨z_15, hz_15, h⟩ := bnd_s h
            refine g_callSI (rm := rm_L_bears) (As := [.int (c_q2 (7 + v4).toNatClampNeg)]) (r := z_15) (W0 := []) (W1 := []) (isC := []) (isR := [0, 1, 2, 3, 4, 5, 6, 7, 8, 9, 10, 11, 12, 13, 14, 15, 16, 17, 18, 19, 20, 21, 22, 23, 24, 25, 26]) (perm := [0, 1, 2, 3, 4, 5, 6, 7, 8, 9, 10, 11, 12, 13, 14, 15, 16, 17, 18, 19, 20, 21, 22, 23, 24, 25, 26]) (ws' := (w_L_stands_n1 cA a_q0 a_q1 a_q2 a_n1 a_q0_page a_q0_plan a_q0_air a_q0_trial a_q0_smoke a_q0_crew a_q0_now a_q0_kept a_q0_dream a_q0_draws a_q0_rescuers a_q0_page_letters a_q0_page_reader a_q0_plan_one a_q0_plan_two a_q0_plan_length a_q0_plan_draught a_q0_plan_one_cells a_q0_plan_two_cells a_q0_plan_length_cells a_q0_plan_draught_cells a_q0_air_height a_q0_air_into a_q0_air_nearest a_q0_air_height_cells a_q0_air_into_cells a_q0_crew_kinds a_q0_crew_kinds_cells a_q0_now_gas a_q0_now_place a_q0_now_gas_cells a_q0_now_place_cells u_q0_keptMine u_q0_keptMen n_q1 n_q2 c_q0_minesRead c_q0_doorsDone c_q0_page_length c_q0_plan_galleries c_q0_plan_doors c_q0_plan_shafts c_q0_plan_one c_q0_plan_two c_q0_plan_length c_q0_plan_draught c_q0_air_breathing c_q0_air_height c_q0_air_into c_q0_crew_size c_q0_crew_kinds c_q0_now_open c_q0_now_moon c_q0_now_out c_q0_now_gone c_q0_now_gas c_q0_now_place c_q1 c_q2 c_n1)) X (c_L_bears l D cA (c_q2 (7 + v4).toNatClampNeg) _ hz_15) gL_stands_L_bears rfl rfl rfl hd_L_bears ⟨Nat.le_of_ble_eq_true rfl, Nat.le_of_ble_eq_true rfl⟩ rfl rfl (Nat.le_of_ble_eq_true rfl) rfl (by decide +kernel) rfl (by decide +kernel) (by decide +kernel) (by decide) rfl (by decide +kernel) dL_stands_293 rfl ?_
            refine g_icmp_eq (tgt := 301) X dL_stands_296 (by decide) rfl h (fun c_16 h => ?_) (fun c_16 h => ?_)
            · obtain ⟨v4_17, ev4_17, h⟩ := nam_s h
              refine g_iinc (v := v4_17) (lv' := [(4, .int v4_17), (0, .ref a_q0), (1, .ref a_q1), (2, .ref a_q2)]) X 3 rfl (by rw [ev4_17]; rfl) (by decide) rfl dL_stands_301 rfl ?_
              refine g_goto (tgt := 217) X dL_stands_304 (by decide) ?_
              refine g_lvs [1, 2, 3, 0] rfl ?_
              exact ih _ h
            · refine g_iconst (v := 0) X dL_stands_299 (by decide) rfl ?_
              refine g_wperm (ws' := (w_L_stands cA a_q0 a_q1 a_q2 a_q0_page a_q0_plan a_q0_air a_q0_trial a_q0_smoke a_q0_crew a_q0_now a_q0_kept a_q0_dream a_q0_draws a_q0_rescuers a_q0_page_letters a_q0_page_reader a_q0_plan_one a_q0_plan_two a_q0_plan_length a_q0_plan_draught a_q0_plan_one_cells a_q0_plan_two_cells a_q0_plan_length_cells a_q0_plan_draught_cells a_q0_air_height a_q0_air_into a_q0_air_nearest a_q0_air_height_cells a_q0_air_into_cells a_q0_crew_kinds a_q0_crew_kinds_cells a_q0_now_gas a_q0_now_place a_q0_now_gas_cells a_q0_now_place_cells u_q0_keptMine u_q0_keptMen n_q1 n_q2 c_q0_minesRead c_q0_doorsDone c_q0_page_length c_q0_plan_galleries c_q0_plan_doors c_q0_plan_shafts c_q0_plan_one c_q0_plan_two c_q0_plan_length c_q0_plan_draught c_q0_air_breathing c_q0_air_height c_q0_air_into c_q0_crew_size c_q0_crew_kinds c_q0_now_open c_q0_now_moon c_q0_now_out c_q0_now_gone c_q0_now_gas c_q0_now_place c_q1 c_q2)) [0, 1, 2, 3, 4, 5, 6, 7, 8, 9, 10, 11, 12, 13, 14, 15, 16, 17, 18, 19, 20, 21, 22, 23, 24, 25] rfl (by decide) ?_
              cases Option.some.inj h
              exact hret _ _ dL_stands_300 (nar_z (Or.inl rfl))
