abbrev rm_L_cell : Room := { frames := 0, cells := 0, slots := 0, locals := 0 }
theorem hd_L_cell : yL_cell.cls ≠ "java/lang/invoke/MethodHandle" ∧ yL_cell.cls ≠ "java/lang/invoke/VarHandle" ∧ (parseMethodDescriptor yL_cell.desc).map (fun d => d.parameters.length) = some 2 := by decide +kernel
set_option maxHeartbeats 4000000 in
set_option maxRecDepth 100000 in
theorem c_L_cell (l : Launch) (D : va_G) (cA : ClassId) (a_q0 : Nat)  (n_q0 : Nat) (c_q0 : A32) (v1 : Int32) (z : Int32) (h : f_L_cell n_q0 c_q0 v1 = some z) : CtX l yL_cell wsL_cell rm_L_cell D cA a_q0 n_q0 c_q0 [.ref a_q0, .int v1] [] z [] := by
  refine ct_X (maxL := 2) (ty := .int) (cc := cL_cell) (by decide) rfl (Nat.le_of_ble_eq_true rfl) rfl (fun p e s m args below meth c A Q X hX hret => ?_)
  have h : (if (nI n_q0) ≤ v1 then some (747796405 * (v1 + 1)) else if inB v1 n_q0 then some (c_q0 (Int32.toNatClampNeg v1)) else none : Option (Int32)) = some z := h
  refine g_iload_n X 1 rfl rfl dL_cell_0 rfl ?_
  refine g_aload_n X 0 rfl rfl dL_cell_1 rfl ?_
  refine g_slen X hX.1 hX.2.1 hX.2.2 dL_cell_2 rfl ?_
  refine g_icmp_ge (tgt := 12) X dL_cell_3 (by decide) rfl h (fun c_1 h => ?_) (fun c_1 h => ?_)
  · refine g_ldc (v := 747796405) X (by decide +kernel) dL_cell_12 rfl ?_
    refine g_iload_n X 1 rfl rfl dL_cell_14 rfl ?_
    refine g_iconst (v := 1) X dL_cell_15 (by decide) rfl ?_
    refine g_iadd X dL_cell_16 rfl ?_
    refine g_imul X dL_cell_17 rfl ?_
    cases Option.some.inj h
    exact hret _ _ dL_cell_18 rfl
  · refine g_aload_n X 0 rfl rfl dL_cell_6 rfl ?_
    refine g_iload_n X 1 rfl rfl dL_cell_7 rfl ?_
    refine g_sld X hX.1 hX.2.1 hX.2.2 dL_cell_8 rfl h (fun h => ?_)
    refine g_goto (tgt := 18) X dL_cell_9 (by decide) ?_
    cases Option.some.inj h
    exact hret _ _ dL_cell_18 rfl
abbrev rm_L_at : Room := { frames := 0, cells := 0, slots := 0, locals := 0 }
theorem hd_L_at : yL_at.cls ≠ "java/lang/invoke/MethodHandle" ∧ yL_at.cls ≠ "java/lang/invoke/VarHandle" ∧ (parseMethodDescriptor yL_at.desc).map (fun d => d.parameters.length) = some 2 := by decide +kernel
set_option maxHeartbeats 4000000 in
set_option maxRecDepth 100000 in
theorem c_L_at (l : Launch) (D : va_G) (cA : ClassId)  (v0 : Int32) (v1 : Int32) (z : Int32) (h : f_L_at v0 v1 = some z) : CtI l yL_at wsL_at rm_L_at D cA [.int v0, .int v1] [] z [] := by
  refine ct_I (maxL := 2) (ty := .int) (cc := cL_at) (by decide) rfl (Nat.le_of_ble_eq_true rfl) rfl (fun p e s m args below meth c A Q X hret => ?_)
  have h : (if v1 = 0 then none else some ((UInt32.toInt32 (Int32.toUInt32 v0 >>> (Int32.toUInt32 1 &&& Int32.toUInt32 31))) - (UInt32.toInt32 (Int32.toUInt32 v0 >>> (Int32.toUInt32 1 &&& Int32.toUInt32 31))) / v1 * v1) : Option (Int32)) = some z := h
  refine g_iload_n X 0 rfl rfl dL_at_0 rfl ?_
  refine g_iconst (v := 1) X dL_at_1 (by decide) rfl ?_
  refine g_iushr X dL_at_2 rfl ?_
  refine g_iload_n X 1 rfl rfl dL_at_3 rfl ?_
  obtain ⟨c_1, h⟩ := ite_n h
  refine g_irem X dL_at_4 c_1 rfl ?_
  cases Option.some.inj h
  exact hret _ _ dL_at_5 rfl
abbrev rm_L_mineText : Room := { frames := 1, cells := 0, slots := 0, locals := 21 }
theorem hd_L_mineText : yL_mineText.cls ≠ "java/lang/invoke/MethodHandle" ∧ yL_mineText.cls ≠ "java/lang/invoke/VarHandle" ∧ (parseMethodDescriptor yL_mineText.desc).map (fun d => d.parameters.length) = some 5 := by decide +kernel
abbrev w_L_mineText (cA : ClassId) (a_q0 a_q3 a_q4 : Nat) (n_q3 : Nat) (n_q4 : Nat) (c_q3 : A32) (c_q4 : A32) : va_W := [(a_q3, .inl (cA, n_q3, .inl c_q3)), (a_q4, .inl (cA, n_q4, .inl c_q4))]
set_option maxHeartbeats 4000000 in
set_option maxRecDepth 100000 in
theorem t_L_mineText_b245 {l : Launch} {D : va_G} {cA : ClassId} {p : Program} {e : Env} {s : State} {m : MethodId} {args : Array Value} {below : List Frame} {meth : Method} {c : Code} {A : Nat → Prop} {Q : State → Prop} {z : Int32 × A32 × A32} {a_q0 a_q3 a_q4 : Nat}   {n_q3 : Nat} {n_q4 : Nat} {n_q0 : Nat} {c_q0 : A32} {c_q3 : A32} {c_q4 : A32} {v1 : Int32} {v5 : Int32} {v6 : Int32} {v7 : Int32} {v8 : Int32} {k41 : A32 → A32 → Int32 → Int32 → Option (Int32 × A32 × A32)} (X : GX p s m args c cL_mineText RL wsL_mineText D cA A 11) (hX : va_X a_q0 n_q0 c_q0 s s.heap ∧ a_q0 < s.heap.size ∧ ¬ A a_q0) (hret : RtI p l e rm_L_mineText s m args below meth c cL_mineText D A 11 0 0 Q .int z.1 (w_L_mineText cA a_q0 a_q3 a_q4 n_q3 n_q4 z.2.1 z.2.2)) (hk41 : ∀ (c_q3 : A32) (c_q4 : A32) (v6 : Int32) (v8 : Int32), k41 c_q3 c_q4 v6 v8 = some z → G p l e rm_L_mineText s m args below meth c D A 11 0 0 Q 41 [(0, .ref a_q0), (1, .int v1), (3, .ref a_q3), (4, .ref a_q4), (5, .int v5), (6, .int v6), (7, .int v7), (8, .int v8)] [] (w_L_mineText cA a_q0 a_q3 a_q4 n_q3 n_q4 c_q3 c_q4)) (h : f_L_mineText_b245 k41 n_q3 n_q4 n_q0 c_q0 c_q3 c_q4 v1 v5 v6 v7 v8 = some z) : G p l e rm_L_mineText s m args below meth c D A 11 0 0 Q 245 [(0, .ref a_q0), (1, .int v1), (3, .ref a_q3), (4, .ref a_q4), (5, .int v5), (6, .int v6), (7, .int v7), (8, .int v8)] [] (w_L_mineText cA a_q0 a_q3 a_q4 n_q3 n_q4 c_q3 c_q4) := by
  have h : (nam (v8 + 1) fun v8_1 => k41 c_q3 c_q4 v6 v8_1 : Option (Int32 × A32 × A32)) = some z := h
  obtain ⟨v8_1, ev8_1, h⟩ := nam_s h
  refine g_iinc (v := v8_1) (lv' := [(8, .int v8_1), (0, .ref a_q0), (1, .int v1), (3, .ref a_q3), (4, .ref a_q4), (5, .int v5), (6, .int v6), (7, .int v7)]) X 7 rfl (by rw [ev8_1]; rfl) (by decide) rfl dL_mineText_245 rfl ?_
  refine g_goto (tgt := 41) X dL_mineText_248 (by decide) ?_
  refine g_lvs [1, 2, 3, 4, 5, 6, 7, 0] rfl ?_
  exact hk41 _ _ _ _ h
set_option maxHeartbeats 4000000 in
set_option maxRecDepth 100000 in
theorem t_L_mineText_b172 {l : Launch} {D : va_G} {cA : ClassId} {p : Program} {e : Env} {s : State} {m : MethodId} {args : Array Value} {below : List Frame} {meth : Method} {c : Code} {A : Nat → Prop} {Q : State → Prop} {z : Int32 × A32 × A32} {a_q0 a_q3 a_q4 : Nat}   {n_q3 : Nat} {n_q4 : Nat} {n_q0 : Nat} {c_q0 : A32} {c_q3 : A32} {c_q4 : A32} {v1 : Int32} {v5 : Int32} {v6 : Int32} {v7 : Int32} {v8 : Int32} {k41 : A32 → A32 → Int32 → Int32 → Option (Int32 × A32 × A32)} (X : GX p s m args c cL_mineText RL wsL_mineText D cA A 11) (hX : va_X a_q0 n_q0 c_q0 s s.heap ∧ a_q0 < s.heap.size ∧ ¬ A a_q0) (hret : RtI p l e rm_L_mineText s m args below meth c cL_mineText D A 11 0 0 Q .int z.1 (w_L_mineText cA a_q0 a_q3 a_q4 n_q3 n_q4 z.2.1 z.2.2)) (hk41 : ∀ (c_q3 : A32) (c_q4 : A32) (v6 : Int32) (v8 : Int32), k41 c_q3 c_q4 v6 v8 = some z → G p l e rm_L_mineText s m args below meth c D A 11 0 0 Q 41 [(0, .ref a_q0), (1, .int v1), (3, .ref a_q3), (4, .ref a_q4), (5, .int v5), (6, .int v6), (7, .int v7), (8, .int v8)] [] (w_L_mineText cA a_q0 a_q3 a_q4 n_q3 n_q4 c_q3 c_q4)) (h : f_L_mineText_b172 k41 n_q3 n_q4 n_q0 c_q0 c_q3 c_q4 v1 v5 v6 v7 v8 = some z) : G p l e rm_L_mineText s m args below meth c D A 11 0 0 Q 172 [(0, .ref a_q0), (1, .int v1), (3, .ref a_q3), (4, .ref a_q4), (5, .int v5), (6, .int v6), (7, .int v7), (8, .int v8)] [] (w_L_mineText cA a_q0 a_q3 a_q4 n_q3 n_q4 c_q3 c_q4) := by
  have h : (nam (v6 + 1) fun v6_1 => if inB (1 + v8) n_q3 then if inB v6 n_q4 then nam (v6_1 + 1) fun v6_2 => if inB (11 + v8) n_q3 then if inB v6_1 n_q4 then nam (v6_2 + 1) fun v6_3 => if inB (21 + v8) n_q3 then if inB v6_2 n_q4 then if inB (31 + v8) n_q3 then if (c_q3 (31 + v8).toNatClampNeg) ≤ 0 then f_L_mineText_b245 k41 n_q3 n_q4 n_q0 c_q0 c_q3 (upd (upd (upd c_q4 (Int32.toNatClampNeg v6) (48 + (c_q3 (1 + v8).toNatClampNeg))) (Int32.toNatClampNeg v6_1) (48 + (c_q3 (11 + v8).toNatClampNeg))) (Int32.toNatClampNeg v6_2) (48 + (c_q3 (21 + v8).toNatClampNeg))) v1 v5 v6_3 v7 v8 else nam (v6_3 + 1) fun v6_5 => if inB v6_3 n_q4 then f_L_mineText_b245 k41 n_q3 n_q4 n_q0 c_q0 c_q3 (upd (upd (upd (upd c_q4 (Int32.toNatClampNeg v6) (48 + (c_q3 (1 + v8).toNatClampNeg))) (Int32.toNatClampNeg v6_1) (48 + (c_q3 (11 + v8).toNatClampNeg))) (Int32.toNatClampNeg v6_2) (48 + (c_q3 (21 + v8).toNatClampNeg))) (Int32.toNatClampNeg v6_3) 100) v1 v5 v6_5 v7 v8 else none else none else none else none else none else none else none else none : Option (Int32 × A32 × A32)) = some z := h
  refine g_aload X 3 rfl dL_mineText_172 rfl ?_
  refine g_iload X 5 rfl dL_mineText_174 rfl ?_
  obtain ⟨v6_1, ev6_1, h⟩ := nam_s h
  refine g_iinc (v := v6_1) (lv' := [(6, .int v6_1), (0, .ref a_q0), (1, .int v1), (3, .ref a_q3), (4, .ref a_q4), (5, .int v5), (7, .int v7), (8, .int v8)]) X 5 rfl (by rw [ev6_1]; rfl) (by decide) rfl dL_mineText_176 rfl ?_
  refine g_bipush (v := 48) X dL_mineText_179 (by decide) rfl ?_
  refine g_aload_n X 3 rfl rfl dL_mineText_181 rfl ?_
  refine g_iconst (v := 1) X dL_mineText_182 (by decide) rfl ?_
  refine g_iload X 7 rfl dL_mineText_183 rfl ?_
  refine g_iadd X dL_mineText_185 rfl ?_
  refine g_iald X 0 rfl dL_mineText_186 rfl h (fun h => ?_)
  refine g_iadd X dL_mineText_187 rfl ?_
  refine g_iast (ws' := (w_L_mineText cA a_q0 a_q3 a_q4 n_q3 n_q4 c_q3 (upd c_q4 (Int32.toNatClampNeg v6) (48 + (c_q3 (1 + v8).toNatClampNeg))))) X 1 rfl rfl dL_mineText_188 rfl h (fun h => ?_)
  refine g_aload X 4 rfl dL_mineText_189 rfl ?_
  refine g_iload X 0 rfl dL_mineText_191 rfl ?_
  obtain ⟨v6_2, ev6_2, h⟩ := nam_s h
  refine g_iinc (v := v6_2) (lv' := [(6, .int v6_2), (0, .ref a_q0), (1, .int v1), (3, .ref a_q3), (4, .ref a_q4), (5, .int v5), (7, .int v7), (8, .int v8)]) X 0 rfl (by rw [ev6_2]; rfl) (by decide) rfl dL_mineText_193 rfl ?_
  refine g_bipush (v := 48) X dL_mineText_196 (by decide) rfl ?_
  refine g_aload_n X 3 rfl rfl dL_mineText_198 rfl ?_
  refine g_bipush (v := 11) X dL_mineText_199 (by decide) rfl ?_
  refine g_iload X 7 rfl dL_mineText_201 rfl ?_
  refine g_iadd X dL_mineText_203 rfl ?_
  refine g_iald X 0 rfl dL_mineText_204 rfl h (fun h => ?_)
  refine g_iadd X dL_mineText_205 rfl ?_
  refine g_iast (ws' := (w_L_mineText cA a_q0 a_q3 a_q4 n_q3 n_q4 c_q3 (upd (upd c_q4 (Int32.toNatClampNeg v6) (48 + (c_q3 (1 + v8).toNatClampNeg))) (Int32.toNatClampNeg v6_1) (48 + (c_q3 (11 + v8).toNatClampNeg))))) X 1 rfl rfl dL_mineText_206 rfl h (fun h => ?_)
  refine g_aload X 4 rfl dL_mineText_207 rfl ?_
  refine g_iload X 0 rfl dL_mineText_209 rfl ?_
  obtain ⟨v6_3, ev6_3, h⟩ := nam_s h
  refine g_iinc (v := v6_3) (lv' := [(6, .int v6_3), (0, .ref a_q0), (1, .int v1), (3, .ref a_q3), (4, .ref a_q4), (5, .int v5), (7, .int v7), (8, .int v8)]) X 0 rfl (by rw [ev6_3]; rfl) (by decide) rfl dL_mineText_211 rfl ?_
  refine g_bipush (v := 48) X dL_mineText_214 (by decide) rfl ?_
  refine g_aload_n X 3 rfl rfl dL_mineText_216 rfl ?_
  refine g_bipush (v := 21) X dL_mineText_217 (by decide) rfl ?_
  refine g_iload X 7 rfl dL_mineText_219 rfl ?_
  refine g_iadd X dL_mineText_221 rfl ?_
  refine g_iald X 0 rfl dL_mineText_222 rfl h (fun h => ?_)
  refine g_iadd X dL_mineText_223 rfl ?_
  refine g_iast (ws' := (w_L_mineText cA a_q0 a_q3 a_q4 n_q3 n_q4 c_q3 (upd (upd (upd c_q4 (Int32.toNatClampNeg v6) (48 + (c_q3 (1 + v8).toNatClampNeg))) (Int32.toNatClampNeg v6_1) (48 + (c_q3 (11 + v8).toNatClampNeg))) (Int32.toNatClampNeg v6_2) (48 + (c_q3 (21 + v8).toNatClampNeg))))) X 1 rfl rfl dL_mineText_224 rfl h (fun h => ?_)
  refine g_aload_n X 3 rfl rfl dL_mineText_225 rfl ?_
  refine g_bipush (v := 31) X dL_mineText_226 (by decide) rfl ?_
  refine g_iload X 7 rfl dL_mineText_228 rfl ?_
  refine g_iadd X dL_mineText_230 rfl ?_
  refine g_iald X 0 rfl dL_mineText_231 rfl h (fun h => ?_)
  refine g_if_le (tgt := 245) X dL_mineText_232 (by decide) rfl h (fun c_4 h => ?_) (fun c_4 h => ?_)
  · refine g_lvs [1, 2, 3, 4, 5, 0, 6, 7] rfl ?_
    exact t_L_mineText_b245 X hX hret hk41 h
  · refine g_aload X 4 rfl dL_mineText_235 rfl ?_
    refine g_iload X 0 rfl dL_mineText_237 rfl ?_
    obtain ⟨v6_5, ev6_5, h⟩ := nam_s h
    refine g_iinc (v := v6_5) (lv' := [(6, .int v6_5), (0, .ref a_q0), (1, .int v1), (3, .ref a_q3), (4, .ref a_q4), (5, .int v5), (7, .int v7), (8, .int v8)]) X 0 rfl (by rw [ev6_5]; rfl) (by decide) rfl dL_mineText_239 rfl ?_
    refine g_bipush (v := 100) X dL_mineText_242 (by decide) rfl ?_
    refine g_iast (ws' := (w_L_mineText cA a_q0 a_q3 a_q4 n_q3 n_q4 c_q3 (upd (upd (upd (upd c_q4 (Int32.toNatClampNeg v6) (48 + (c_q3 (1 + v8).toNatClampNeg))) (Int32.toNatClampNeg v6_1) (48 + (c_q3 (11 + v8).toNatClampNeg))) (Int32.toNatClampNeg v6_2) (48 + (c_q3 (21 + v8).toNatClampNeg))) (Int32.toNatClampNeg v6_3) 100))) X 1 rfl rfl dL_mineText_244 rfl h (fun h => ?_)
    refine g_lvs [1, 2, 3, 4, 5, 0, 6, 7] rfl ?_
    exact t_L_mineText_b245 X hX hret hk41 h
set_option maxHeartbeats 4000000 in
set_option maxRecDepth 100000 in
theorem t_L_mineText_b342 {l : Launch} {D : va_G} {cA : ClassId} {p : Program} {e : Env} {s : State} {m : MethodId} {args : Array Value} {below : List Frame} {meth : Method} {c : Code} {A : Nat → Prop} {Q : State → Prop} {z : Int32 × A32 × A32} {a_q0 a_q3 a_q4 : Nat}   {n_q3 : Nat} {n_q4 : Nat} {n_q0 : Nat} {c_q0 : A32} {c_q3 : A32} {c_q4 : A32} {v1 : Int32} {v5 : Int32} {v6 : Int32} {v8 : Int32} {v9 : Int32} {k318 : A32 → A32 → Int32 → Int32 → Option (Int32 × A32 × A32)} (X : GX p s m args c cL_mineText RL wsL_mineText D cA A 11) (hX : va_X a_q0 n_q0 c_q0 s s.heap ∧ a_q0 < s.heap.size ∧ ¬ A a_q0) (hret : RtI p l e rm_L_mineText s m args below meth c cL_mineText D A 11 0 0 Q .int z.1 (w_L_mineText cA a_q0 a_q3 a_q4 n_q3 n_q4 z.2.1 z.2.2)) (hk318 : ∀ (c_q3 : A32) (c_q4 : A32) (v6 : Int32) (v9 : Int32), k318 c_q3 c_q4 v6 v9 = some z → G p l e rm_L_mineText s m args below meth c D A 11 0 0 Q 318 [(0, .ref a_q0), (1, .int v1), (3, .ref a_q3), (4, .ref a_q4), (5, .int v5), (6, .int v6), (8, .int v8), (9, .int v9)] [] (w_L_mineText cA a_q0 a_q3 a_q4 n_q3 n_q4 c_q3 c_q4)) : ∀ (fu : Nat) (v10 : Int32), f_L_mineText_b342 k318 n_q3 n_q4 n_q0 c_q0 c_q3 c_q4 v1 v5 v6 v8 v9 fu v10 = some z → G p l e rm_L_mineText s m args below meth c D A 11 0 0 Q 342 [(0, .ref a_q0), (1, .int v1), (3, .ref a_q3), (4, .ref a_q4), (5, .int v5), (6, .int v6), (8, .int v8), (9, .int v9), (10, .int v10)] [] (w_L_mineText cA a_q0 a_q3 a_q4 n_q3 n_q4 c_q3 c_q4) := by
  intro fu
  induction fu with
  | zero => intro v10 h; exact absurd (show (none : Option (Int32 × A32 × A32)) = some z from h) (by simp)
  | succ fu ih =>
    intro v10 h
    have h : (if inB (52 + v10) n_q3 then if (c_q3 (52 + v10).toNatClampNeg) ≤ 0 then Option.bind (f_L_cell n_q0 c_q0 (v1 + 6)) fun z_2 => Option.bind (f_L_at (z_2 >>> ((4 * v9) &&& 31)) 10) fun z_3 => if inB (52 + v10) n_q3 then nam (v6 + 1) fun v6_4 => if inB v6 n_q4 then nam (v6_4 + 1) fun v6_5 => if inB (52 + v10) n_q3 then if inB v6_4 n_q4 then nam (v9 + 1) fun v9_6 => k318 (upd c_q3 (Int32.toNatClampNeg (52 + v10)) (1 + z_3)) (upd (upd c_q4 (Int32.toNatClampNeg v6) (48 + v10)) (Int32.toNatClampNeg v6_4) (47 + ((upd c_q3 (Int32.toNatClampNeg (52 + v10)) (1 + z_3)) (52 + v10).toNatClampNeg))) v6_5 v9_6 else none else none else none else none else nam ((v10 + 1) - (v10 + 1) / 7 * 7) fun v10_7 => (f_L_mineText_b342 k318 n_q3 n_q4 n_q0 c_q0 c_q3 c_q4 v1 v5 v6 v8 v9 fu) v10_7 else none : Option (Int32 × A32 × A32)) = some z := h
    refine g_aload_n X 2 rfl rfl dL_mineText_342 rfl ?_
    refine g_bipush (v := 52) X dL_mineText_343 (by decide) rfl ?_
    refine g_iload X 8 rfl dL_mineText_345 rfl ?_
    refine g_iadd X dL_mineText_347 rfl ?_
    refine g_iald X 0 rfl dL_mineText_348 rfl h (fun h => ?_)
    refine g_if_le (tgt := 364) X dL_mineText_349 (by decide) rfl h (fun c_1 h => ?_) (fun c_1 h => ?_)
    · refine g_aload_n X 2 rfl rfl dL_mineText_364 rfl ?_
      refine g_bipush (v := 52) X dL_mineText_365 (by decide) rfl ?_
      refine g_iload X 8 rfl dL_mineText_367 rfl ?_
      refine g_iadd X dL_mineText_369 rfl ?_
      refine g_iconst (v := 1) X dL_mineText_370 (by decide) rfl ?_
      refine g_aload_n X 0 rfl rfl dL_mineText_371 rfl ?_
      refine g_iload_n X 1 rfl rfl dL_mineText_372 rfl ?_
      refine g_bipush (v := 6) X dL_mineText_373 (by decide) rfl ?_
      refine g_iadd X dL_mineText_375 rfl ?_
      obtain ⟨z_2, hz_2, h⟩ := bnd_s h
      refine g_callSIX (rm := rm_L_cell) (As := [.ref a_q0, .int (v1 + 6)]) (r := z_2) (W0 := []) (W1 := []) (isC := []) (isR := [0, 1]) (perm := [0, 1]) (ws' := (w_L_mineText cA a_q0 a_q3 a_q4 n_q3 n_q4 c_q3 c_q4)) X (c_L_cell l D cA a_q0 n_q0 c_q0 (v1 + 6) _ hz_2) hX gL_mineText_L_cell rfl rfl rfl hd_L_cell ⟨Nat.le_of_ble_eq_true rfl, Nat.le_of_ble_eq_true rfl⟩ rfl rfl (Nat.le_of_ble_eq_true rfl) rfl (by decide +kernel) rfl (by decide +kernel) (by decide +kernel) (by decide) rfl (by decide +kernel) dL_mineText_376 rfl ?_
      refine g_iconst (v := 4) X dL_mineText_379 (by decide) rfl ?_
      refine g_iload X 7 rfl dL_mineText_380 rfl ?_
      refine g_imul X dL_mineText_382 rfl ?_
      refine g_ishr X dL_mineText_383 rfl ?_
      refine g_bipush (v := 10) X dL_mineText_384 (by decide) rfl ?_
      obtain ⟨z_3, hz_3, h⟩ := bnd_s h
      refine g_callSI (rm := rm_L_at) (As := [.int (z_2 >>> ((4 * v9) &&& 31)), .int 10]) (r := z_3) (W0 := []) (W1 := []) (isC := []) (isR := [0, 1]) (perm := [0, 1]) (ws' := (w_L_mineText cA a_q0 a_q3 a_q4 n_q3 n_q4 c_q3 c_q4)) X (c_L_at l D cA (z_2 >>> ((4 * v9) &&& 31)) 10 _ hz_3) gL_mineText_L_at rfl rfl rfl hd_L_at ⟨Nat.le_of_ble_eq_true rfl, Nat.le_of_ble_eq_true rfl⟩ rfl rfl (Nat.le_of_ble_eq_true rfl) rfl (by decide +kernel) rfl (by decide +kernel) (by decide +kernel) (by decide) rfl (by decide +kernel) dL_mineText_386 rfl ?_
      refine g_iadd X dL_mineText_389 rfl ?_
      refine g_iast (ws' := (w_L_mineText cA a_q0 a_q3 a_q4 n_q3 n_q4 (upd c_q3 (Int32.toNatClampNeg (52 + v10)) (1 + z_3)) c_q4)) X 0 rfl rfl dL_mineText_390 rfl h (fun h => ?_)
      refine g_aload X 3 rfl dL_mineText_391 rfl ?_
      refine g_iload X 5 rfl dL_mineText_393 rfl ?_
      obtain ⟨v6_4, ev6_4, h⟩ := nam_s h
      refine g_iinc (v := v6_4) (lv' := [(6, .int v6_4), (0, .ref a_q0), (1, .int v1), (3, .ref a_q3), (4, .ref a_q4), (5, .int v5), (8, .int v8), (9, .int v9), (10, .int v10)]) X 5 rfl (by rw [ev6_4]; rfl) (by decide) rfl dL_mineText_395 rfl ?_
      refine g_bipush (v := 48) X dL_mineText_398 (by decide) rfl ?_
      refine g_iload X 8 rfl dL_mineText_400 rfl ?_
      refine g_iadd X dL_mineText_402 rfl ?_
      refine g_iast (ws' := (w_L_mineText cA a_q0 a_q3 a_q4 n_q3 n_q4 (upd c_q3 (Int32.toNatClampNeg (52 + v10)) (1 + z_3)) (upd c_q4 (Int32.toNatClampNeg v6) (48 + v10)))) X 1 rfl rfl dL_mineText_403 rfl h (fun h => ?_)
      refine g_aload X 4 rfl dL_mineText_404 rfl ?_
      refine g_iload X 0 rfl dL_mineText_406 rfl ?_
      obtain ⟨v6_5, ev6_5, h⟩ := nam_s h
      refine g_iinc (v := v6_5) (lv' := [(6, .int v6_5), (0, .ref a_q0), (1, .int v1), (3, .ref a_q3), (4, .ref a_q4), (5, .int v5), (8, .int v8), (9, .int v9), (10, .int v10)]) X 0 rfl (by rw [ev6_5]; rfl) (by decide) rfl dL_mineText_408 rfl ?_
      refine g_bipush (v := 47) X dL_mineText_411 (by decide) rfl ?_
      refine g_aload_n X 3 rfl rfl dL_mineText_413 rfl ?_
      refine g_bipush (v := 52) X dL_mineText_414 (by decide) rfl ?_
      refine g_iload X 8 rfl dL_mineText_416 rfl ?_
      refine g_iadd X dL_mineText_418 rfl ?_
      refine g_iald X 0 rfl dL_mineText_419 rfl h (fun h => ?_)
      refine g_iadd X dL_mineText_420 rfl ?_
      refine g_iast (ws' := (w_L_mineText cA a_q0 a_q3 a_q4 n_q3 n_q4 (upd c_q3 (Int32.toNatClampNeg (52 + v10)) (1 + z_3)) (upd (upd c_q4 (Int32.toNatClampNeg v6) (48 + v10)) (Int32.toNatClampNeg v6_4) (47 + ((upd c_q3 (Int32.toNatClampNeg (52 + v10)) (1 + z_3)) (52 + v10).toNatClampNeg))))) X 1 rfl rfl dL_mineText_421 rfl h (fun h => ?_)
      obtain ⟨v9_6, ev9_6, h⟩ := nam_s h
      refine g_iinc (v := v9_6) (lv' := [(9, .int v9_6), (6, .int v6_5), (0, .ref a_q0), (1, .int v1), (3, .ref a_q3), (4, .ref a_q4), (5, .int v5), (8, .int v8), (10, .int v10)]) X 7 rfl (by rw [ev9_6]; rfl) (by decide) rfl dL_mineText_422 rfl ?_
      refine g_goto (tgt := 318) X dL_mineText_425 (by decide) ?_
      refine g_lvs [2, 3, 4, 5, 6, 1, 7, 0] rfl ?_
      exact hk318 _ _ _ _ h
    · refine g_iload X 8 rfl dL_mineText_352 rfl ?_
      refine g_iconst (v := 1) X dL_mineText_354 (by decide) rfl ?_
      refine g_iadd X dL_mineText_355 rfl ?_
      refine g_bipush (v := 7) X dL_mineText_356 (by decide) rfl ?_
      refine g_irem X dL_mineText_358 (by decide) rfl ?_
      refine g_nami h (fun v10_7 h => ?_)
      refine g_istore (lv' := [(10, .int v10_7), (0, .ref a_q0), (1, .int v1), (3, .ref a_q3), (4, .ref a_q4), (5, .int v5), (6, .int v6), (8, .int v8), (9, .int v9)]) X (by decide) rfl dL_mineText_359 rfl ?_
      refine g_goto (tgt := 342) X dL_mineText_361 (by decide) ?_
      refine g_lvs [1, 2, 3, 4, 5, 6, 7, 8, 0] rfl ?_
      exact ih _ h
set_option maxHeartbeats 4000000 in
set_option maxRecDepth 100000 in
theorem t_L_mineText_b318 {l : Launch} {D : va_G} {cA : ClassId} {p : Program} {e : Env} {s : State} {m : MethodId} {args : Array Value} {below : List Frame} {meth : Method} {c : Code} {A : Nat → Prop} {Q : State → Prop} {z : Int32 × A32 × A32} {a_q0 a_q3 a_q4 : Nat}   {n_q3 : Nat} {n_q4 : Nat} {n_q0 : Nat} {c_q0 : A32} {v1 : Int32} {v5 : Int32} {v8 : Int32}  (X : GX p s m args c cL_mineText RL wsL_mineText D cA A 11) (hX : va_X a_q0 n_q0 c_q0 s s.heap ∧ a_q0 < s.heap.size ∧ ¬ A a_q0) (hret : RtI p l e rm_L_mineText s m args below meth c cL_mineText D A 11 0 0 Q .int z.1 (w_L_mineText cA a_q0 a_q3 a_q4 n_q3 n_q4 z.2.1 z.2.2))  : ∀ (fu : Nat) (c_q3 : A32) (c_q4 : A32) (v6 : Int32) (v9 : Int32), f_L_mineText_b318 n_q3 n_q4 n_q0 c_q0 v1 v5 v8 fu c_q3 c_q4 v6 v9 = some z → G p l e rm_L_mineText s m args below meth c D A 11 0 0 Q 318 [(0, .ref a_q0), (1, .int v1), (3, .ref a_q3), (4, .ref a_q4), (5, .int v5), (6, .int v6), (8, .int v8), (9, .int v9)] [] (w_L_mineText cA a_q0 a_q3 a_q4 n_q3 n_q4 c_q3 c_q4) := by
  intro fu
  induction fu with
  | zero => intro c_q3 c_q4 v6 v9 h; exact absurd (show (none : Option (Int32 × A32 × A32)) = some z from h) (by simp)
  | succ fu ih =>
    intro c_q3 c_q4 v6 v9 h
    have h : (if v8 ≤ v9 then some (v6, c_q3, c_q4) else Option.bind (f_L_at (v5 >>> ((13 + (2 * v9)) &&& 31)) 7) fun z_2 => f_L_mineText_b342 (f_L_mineText_b318 n_q3 n_q4 n_q0 c_q0 v1 v5 v8 fu) n_q3 n_q4 n_q0 c_q0 c_q3 c_q4 v1 v5 v6 v8 v9 FU z_2 : Option (Int32 × A32 × A32)) = some z := h
    refine g_iload X 7 rfl dL_mineText_318 rfl ?_
    refine g_iload X 6 rfl dL_mineText_320 rfl ?_
    refine g_icmp_ge (tgt := 428) X dL_mineText_322 (by decide) rfl h (fun c_1 h => ?_) (fun c_1 h => ?_)
    · refine g_iload X 5 rfl dL_mineText_428 rfl ?_
      cases Option.some.inj h
      exact hret _ _ dL_mineText_430 rfl
    · refine g_iload X 4 rfl dL_mineText_325 rfl ?_
      refine g_bipush (v := 13) X dL_mineText_327 (by decide) rfl ?_
      refine g_iconst (v := 2) X dL_mineText_329 (by decide) rfl ?_
      refine g_iload X 7 rfl dL_mineText_330 rfl ?_
      refine g_imul X dL_mineText_332 rfl ?_
      refine g_iadd X dL_mineText_333 rfl ?_
      refine g_ishr X dL_mineText_334 rfl ?_
      refine g_bipush (v := 7) X dL_mineText_335 (by decide) rfl ?_
      obtain ⟨z_2, hz_2, h⟩ := bnd_s h
      refine g_callSI (rm := rm_L_at) (As := [.int (v5 >>> ((13 + (2 * v9)) &&& 31)), .int 7]) (r := z_2) (W0 := []) (W1 := []) (isC := []) (isR := [0, 1]) (perm := [0, 1]) (ws' := (w_L_mineText cA a_q0 a_q3 a_q4 n_q3 n_q4 c_q3 c_q4)) X (c_L_at l D cA (v5 >>> ((13 + (2 * v9)) &&& 31)) 7 _ hz_2) gL_mineText_L_at rfl rfl rfl hd_L_at ⟨Nat.le_of_ble_eq_true rfl, Nat.le_of_ble_eq_true rfl⟩ rfl rfl (Nat.le_of_ble_eq_true rfl) rfl (by decide +kernel) rfl (by decide +kernel) (by decide +kernel) (by decide) rfl (by decide +kernel) dL_mineText_337 rfl ?_
      refine g_istore (lv' := [(10, .int z_2), (0, .ref a_q0), (1, .int v1), (3, .ref a_q3), (4, .ref a_q4), (5, .int v5), (6, .int v6), (8, .int v8), (9, .int v9)]) X (by decide) rfl dL_mineText_340 rfl ?_
      refine g_lvs [1, 2, 3, 4, 5, 6, 7, 8, 0] rfl ?_
      exact t_L_mineText_b342 X hX hret ih _ _ h
set_option maxHeartbeats 4000000 in
set_option maxRecDepth 100000 in
theorem t_L_mineText_b294 {l : Launch} {D : va_G} {cA : ClassId} {p : Program} {e : Env} {s : State} {m : MethodId} {args : Array Value} {below : List Frame} {meth : Method} {c : Code} {A : Nat → Prop} {Q : State → Prop} {z : Int32 × A32 × A32} {a_q0 a_q3 a_q4 : Nat}   {n_q3 : Nat} {n_q4 : Nat} {n_q0 : Nat} {c_q0 : A32} {c_q4 : A32} {v1 : Int32} {v5 : Int32} {v6 : Int32} {v8 : Int32}  (X : GX p s m args c cL_mineText RL wsL_mineText D cA A 11) (hX : va_X a_q0 n_q0 c_q0 s s.heap ∧ a_q0 < s.heap.size ∧ ¬ A a_q0) (hret : RtI p l e rm_L_mineText s m args below meth c cL_mineText D A 11 0 0 Q .int z.1 (w_L_mineText cA a_q0 a_q3 a_q4 n_q3 n_q4 z.2.1 z.2.2))  : ∀ (fu : Nat) (c_q3 : A32) (v9 : Int32), f_L_mineText_b294 n_q3 n_q4 n_q0 c_q0 c_q4 v1 v5 v6 v8 fu c_q3 v9 = some z → G p l e rm_L_mineText s m args below meth c D A 11 0 0 Q 294 [(0, .ref a_q0), (1, .int v1), (3, .ref a_q3), (4, .ref a_q4), (5, .int v5), (6, .int v6), (8, .int v8), (9, .int v9)] [] (w_L_mineText cA a_q0 a_q3 a_q4 n_q3 n_q4 c_q3 c_q4) := by
  intro fu
  induction fu with
  | zero => intro c_q3 v9 h; exact absurd (show (none : Option (Int32 × A32 × A32)) = some z from h) (by simp)
  | succ fu ih =>
    intro c_q3 v9 h
    have h : (if 7 ≤ v9 then f_L_mineText_b318 n_q3 n_q4 n_q0 c_q0 v1 v5 v8 FU c_q3 c_q4 v6 0 else if inB (52 + v9) n_q3 then nam (v9 + 1) fun v9_2 => (f_L_mineText_b294 n_q3 n_q4 n_q0 c_q0 c_q4 v1 v5 v6 v8 fu) (upd c_q3 (Int32.toNatClampNeg (52 + v9)) 0) v9_2 else none : Option (Int32 × A32 × A32)) = some z := h
    refine g_iload X 7 rfl dL_mineText_294 rfl ?_
    refine g_bipush (v := 7) X dL_mineText_296 (by decide) rfl ?_
    refine g_icmp_ge (tgt := 315) X dL_mineText_298 (by decide) rfl h (fun c_1 h => ?_) (fun c_1 h => ?_)
    · refine g_iconst (v := 0) X dL_mineText_315 (by decide) rfl ?_
      refine g_istore (lv' := [(9, .int 0), (0, .ref a_q0), (1, .int v1), (3, .ref a_q3), (4, .ref a_q4), (5, .int v5), (6, .int v6), (8, .int v8)]) X (by decide) rfl dL_mineText_316 rfl ?_
      refine g_lvs [1, 2, 3, 4, 5, 6, 7, 0] rfl ?_
      exact t_L_mineText_b318 X hX hret _ _ _ _ _ h
    · refine g_aload_n X 2 rfl rfl dL_mineText_301 rfl ?_
      refine g_bipush (v := 52) X dL_mineText_302 (by decide) rfl ?_
      refine g_iload X 7 rfl dL_mineText_304 rfl ?_
      refine g_iadd X dL_mineText_306 rfl ?_
      refine g_iconst (v := 0) X dL_mineText_307 (by decide) rfl ?_
      refine g_iast (ws' := (w_L_mineText cA a_q0 a_q3 a_q4 n_q3 n_q4 (upd c_q3 (Int32.toNatClampNeg (52 + v9)) 0) c_q4)) X 0 rfl rfl dL_mineText_308 rfl h (fun h => ?_)
      obtain ⟨v9_2, ev9_2, h⟩ := nam_s h
      refine g_iinc (v := v9_2) (lv' := [(9, .int v9_2), (0, .ref a_q0), (1, .int v1), (3, .ref a_q3), (4, .ref a_q4), (5, .int v5), (6, .int v6), (8, .int v8)]) X 7 rfl (by rw [ev9_2]; rfl) (by decide) rfl dL_mineText_309 rfl ?_
      refine g_goto (tgt := 294) X dL_mineText_312 (by decide) ?_
      refine g_lvs [1, 2, 3, 4, 5, 6, 7, 0] rfl ?_
      exact ih _ _ h
set_option maxHeartbeats 4000000 in
set_option maxRecDepth 100000 in
theorem t_L_mineText_b285 {l : Launch} {D : va_G} {cA : ClassId} {p : Program} {e : Env} {s : State} {m : MethodId} {args : Array Value} {below : List Frame} {meth : Method} {c : Code} {A : Nat → Prop} {Q : State → Prop} {z : Int32 × A32 × A32} {a_q0 a_q3 a_q4 : Nat}   {n_q3 : Nat} {n_q4 : Nat} {n_q0 : Nat} {c_q0 : A32} {c_q3 : A32} {c_q4 : A32} {t0 : Int32} {t1 : Int32} {t2 : Int32} {v1 : Int32} {v5 : Int32} {v6 : Int32}  (X : GX p s m args c cL_mineText RL wsL_mineText D cA A 11) (hX : va_X a_q0 n_q0 c_q0 s s.heap ∧ a_q0 < s.heap.size ∧ ¬ A a_q0) (hret : RtI p l e rm_L_mineText s m args below meth c cL_mineText D A 11 0 0 Q .int z.1 (w_L_mineText cA a_q0 a_q3 a_q4 n_q3 n_q4 z.2.1 z.2.2))  (h : f_L_mineText_b285 n_q3 n_q4 n_q0 c_q0 c_q3 c_q4 t0 t1 t2 v1 v5 v6 = some z) : G p l e rm_L_mineText s m args below meth c D A 11 0 0 Q 285 [(0, .ref a_q0), (1, .int v1), (3, .ref a_q3), (4, .ref a_q4), (5, .int v5), (6, .int v6)] [.int t2, .int t1, .int t0] (w_L_mineText cA a_q0 a_q3 a_q4 n_q3 n_q4 c_q3 c_q4) := by
  have h : (Option.bind (f_L_at t1 t2) fun z_1 => nam (t0 + z_1) fun v8_2 => f_L_mineText_b294 n_q3 n_q4 n_q0 c_q0 c_q4 v1 v5 v6 v8_2 FU c_q3 0 : Option (Int32 × A32 × A32)) = some z := h
  obtain ⟨z_1, hz_1, h⟩ := bnd_s h
  refine g_callSI (rm := rm_L_at) (As := [.int t1, .int t2]) (r := z_1) (W0 := []) (W1 := []) (isC := []) (isR := [0, 1]) (perm := [0, 1]) (ws' := (w_L_mineText cA a_q0 a_q3 a_q4 n_q3 n_q4 c_q3 c_q4)) X (c_L_at l D cA t1 t2 _ hz_1) gL_mineText_L_at rfl rfl rfl hd_L_at ⟨Nat.le_of_ble_eq_true rfl, Nat.le_of_ble_eq_true rfl⟩ rfl rfl (Nat.le_of_ble_eq_true rfl) rfl (by decide +kernel) rfl (by decide +kernel) (by decide +kernel) (by decide) rfl (by decide +kernel) dL_mineText_285 rfl ?_
  refine g_iadd X dL_mineText_288 rfl ?_
  refine g_nami h (fun v8_2 h => ?_)
  refine g_istore (lv' := [(8, .int v8_2), (0, .ref a_q0), (1, .int v1), (3, .ref a_q3), (4, .ref a_q4), (5, .int v5), (6, .int v6)]) X (by decide) rfl dL_mineText_289 rfl ?_
  refine g_iconst (v := 0) X dL_mineText_291 (by decide) rfl ?_
  refine g_istore (lv' := [(9, .int 0), (8, .int v8_2), (0, .ref a_q0), (1, .int v1), (3, .ref a_q3), (4, .ref a_q4), (5, .int v5), (6, .int v6)]) X (by decide) rfl dL_mineText_292 rfl ?_
  refine g_lvs [2, 3, 4, 5, 6, 7, 1, 0] rfl ?_
  exact t_L_mineText_b294 X hX hret _ _ _ h
set_option maxHeartbeats 4000000 in
set_option maxRecDepth 100000 in
theorem t_L_mineText_b41 {l : Launch} {D : va_G} {cA : ClassId} {p : Program} {e : Env} {s : State} {m : MethodId} {args : Array Value} {below : List Frame} {meth : Method} {c : Code} {A : Nat → Prop} {Q : State → Prop} {z : Int32 × A32 × A32} {a_q0 a_q3 a_q4 : Nat}   {n_q3 : Nat} {n_q4 : Nat} {n_q0 : Nat} {c_q0 : A32} {v1 : Int32} {v5 : Int32} {v7 : Int32}  (X : GX p s m args c cL_mineText RL wsL_mineText D cA A 11) (hX : va_X a_q0 n_q0 c_q0 s s.heap ∧ a_q0 < s.heap.size ∧ ¬ A a_q0) (hret : RtI p l e rm_L_mineText s m args below meth c cL_mineText D A 11 0 0 Q .int z.1 (w_L_mineText cA a_q0 a_q3 a_q4 n_q3 n_q4 z.2.1 z.2.2))  : ∀ (fu : Nat) (c_q3 : A32) (c_q4 : A32) (v6 : Int32) (v8 : Int32), f_L_mineText_b41 n_q3 n_q4 n_q0 c_q0 v1 v5 v7 fu c_q3 c_q4 v6 v8 = some z → G p l e rm_L_mineText s m args below meth c D A 11 0 0 Q 41 [(0, .ref a_q0), (1, .int v1), (3, .ref a_q3), (4, .ref a_q4), (5, .int v5), (6, .int v6), (7, .int v7), (8, .int v8)] [] (w_L_mineText cA a_q0 a_q3 a_q4 n_q3 n_q4 c_q3 c_q4) := by
  intro fu
  induction fu with
  | zero => intro c_q3 c_q4 v6 v8 h; exact absurd (show (none : Option (Int32 × A32 × A32)) = some z from h) (by simp)
  | succ fu ih =>
    intro c_q3 c_q4 v6 v8 h
    have h : (if inB 0 n_q3 then if (c_q3 (Int32.toNatClampNeg 0)) ≤ v8 then nam (v6 + 1) fun v6_2 => if inB v6 n_q4 then Option.bind (f_L_at (v5 >>> (12 &&& 31)) 3) fun z_3 => if z_3 = 0 then f_L_mineText_b285 n_q3 n_q4 n_q0 c_q0 c_q3 (upd c_q4 (Int32.toNatClampNeg v6) 59) 2 (v5 >>> (7 &&& 31)) 6 v1 v5 v6_2 else f_L_mineText_b285 n_q3 n_q4 n_q0 c_q0 c_q3 (upd c_q4 (Int32.toNatClampNeg v6) 59) 2 (v5 >>> (7 &&& 31)) 2 v1 v5 v6_2 else none else Option.bind (f_L_cell n_q0 c_q0 ((v1 + 1) + (v8 - v8 / 5 * 5))) fun z_5 => nam (z_5 >>> ((12 * (v8 / 5)) &&& 31)) fun v9_6 => Option.bind (f_L_at v9_6 v7) fun z_7 => if inB (1 + v8) n_q3 then if inB (1 + v8) n_q3 then Option.bind (f_L_at (v9_6 >>> (3 &&& 31)) (v7 - 1)) fun z_8 => if v7 = 0 then none else if inB (11 + v8) n_q3 then Option.bind (f_L_at (v9_6 >>> (6 &&& 31)) 9) fun z_10 => if inB (21 + v8) n_q3 then Option.bind (f_L_at (v9_6 >>> (10 &&& 31)) 2) fun z_11 => if inB (31 + v8) n_q3 then if inB (41 + v8) n_q3 then if v8 ≤ 0 then f_L_mineText_b172 (f_L_mineText_b41 n_q3 n_q4 n_q0 c_q0 v1 v5 v7 fu) n_q3 n_q4 n_q0 c_q0 (upd (upd (upd (upd (upd c_q3 (Int32.toNatClampNeg (1 + v8)) z_7) (Int32.toNatClampNeg (11 + v8)) (((((upd c_q3 (Int32.toNatClampNeg (1 + v8)) z_7) (1 + v8).toNatClampNeg) + 1) + z_8) - ((((upd c_q3 (Int32.toNatClampNeg (1 + v8)) z_7) (1 + v8).toNatClampNeg) + 1) + z_8) / v7 * v7)) (Int32.toNatClampNeg (21 + v8)) (1 + z_10)) (Int32.toNatClampNeg (31 + v8)) z_11) (Int32.toNatClampNeg (41 + v8)) 1) c_q4 v1 v5 v6 v7 v8 else nam (v6 + 1) fun v6_13 => if inB v6 n_q4 then f_L_mineText_b172 (f_L_mineText_b41 n_q3 n_q4 n_q0 c_q0 v1 v5 v7 fu) n_q3 n_q4 n_q0 c_q0 (upd (upd (upd (upd (upd c_q3 (Int32.toNatClampNeg (1 + v8)) z_7) (Int32.toNatClampNeg (11 + v8)) (((((upd c_q3 (Int32.toNatClampNeg (1 + v8)) z_7) (1 + v8).toNatClampNeg) + 1) + z_8) - ((((upd c_q3 (Int32.toNatClampNeg (1 + v8)) z_7) (1 + v8).toNatClampNeg) + 1) + z_8) / v7 * v7)) (Int32.toNatClampNeg (21 + v8)) (1 + z_10)) (Int32.toNatClampNeg (31 + v8)) z_11) (Int32.toNatClampNeg (41 + v8)) 1) (upd c_q4 (Int32.toNatClampNeg v6) 44) v1 v5 v6_13 v7 v8 else none else none else none else none else none else none else none else none : Option (Int32 × A32 × A32)) = some z := h
    refine g_iload X 7 rfl dL_mineText_41 rfl ?_
    refine g_aload_n X 2 rfl rfl dL_mineText_43 rfl ?_
    refine g_iconst (v := 0) X dL_mineText_44 (by decide) rfl ?_
    refine g_iald X 0 rfl dL_mineText_45 rfl h (fun h => ?_)
    refine g_icmp_ge (tgt := 251) X dL_mineText_46 (by decide) rfl h (fun c_1 h => ?_) (fun c_1 h => ?_)
    · refine g_aload X 3 rfl dL_mineText_251 rfl ?_
      refine g_iload X 5 rfl dL_mineText_253 rfl ?_
      obtain ⟨v6_2, ev6_2, h⟩ := nam_s h
      refine g_iinc (v := v6_2) (lv' := [(6, .int v6_2), (0, .ref a_q0), (1, .int v1), (3, .ref a_q3), (4, .ref a_q4), (5, .int v5), (7, .int v7), (8, .int v8)]) X 5 rfl (by rw [ev6_2]; rfl) (by decide) rfl dL_mineText_255 rfl ?_
      refine g_bipush (v := 59) X dL_mineText_258 (by decide) rfl ?_
      refine g_iast (ws' := (w_L_mineText cA a_q0 a_q3 a_q4 n_q3 n_q4 c_q3 (upd c_q4 (Int32.toNatClampNeg v6) 59))) X 1 rfl rfl dL_mineText_260 rfl h (fun h => ?_)
      refine g_iconst (v := 2) X dL_mineText_261 (by decide) rfl ?_
      refine g_iload X 5 rfl dL_mineText_262 rfl ?_
      refine g_bipush (v := 7) X dL_mineText_264 (by decide) rfl ?_
      refine g_ishr X dL_mineText_266 rfl ?_
      refine g_iload X 5 rfl dL_mineText_267 rfl ?_
      refine g_bipush (v := 12) X dL_mineText_269 (by decide) rfl ?_
      refine g_ishr X dL_mineText_271 rfl ?_
      refine g_iconst (v := 3) X dL_mineText_272 (by decide) rfl ?_
      obtain ⟨z_3, hz_3, h⟩ := bnd_s h
      refine g_callSI (rm := rm_L_at) (As := [.int (v5 >>> (12 &&& 31)), .int 3]) (r := z_3) (W0 := []) (W1 := []) (isC := []) (isR := [0, 1]) (perm := [0, 1]) (ws' := (w_L_mineText cA a_q0 a_q3 a_q4 n_q3 n_q4 c_q3 (upd c_q4 (Int32.toNatClampNeg v6) 59))) X (c_L_at l D cA (v5 >>> (12 &&& 31)) 3 _ hz_3) gL_mineText_L_at rfl rfl rfl hd_L_at ⟨Nat.le_of_ble_eq_true rfl, Nat.le_of_ble_eq_true rfl⟩ rfl rfl (Nat.le_of_ble_eq_true rfl) rfl (by decide +kernel) rfl (by decide +kernel) (by decide +kernel) (by decide) rfl (by decide +kernel) dL_mineText_273 rfl ?_
      refine g_if_ne (tgt := 284) X dL_mineText_276 (by decide) rfl h (fun c_4 h => ?_) (fun c_4 h => ?_)
      · refine g_iconst (v := 2) X dL_mineText_284 (by decide) rfl ?_
        refine g_lvs [1, 2, 3, 4, 5, 0] rfl ?_
        exact t_L_mineText_b285 X hX hret h
      · refine g_bipush (v := 6) X dL_mineText_279 (by decide) rfl ?_
        refine g_goto (tgt := 285) X dL_mineText_281 (by decide) ?_
        refine g_lvs [1, 2, 3, 4, 5, 0] rfl ?_
        exact t_L_mineText_b285 X hX hret h
    · refine g_aload_n X 0 rfl rfl dL_mineText_49 rfl ?_
      refine g_iload_n X 1 rfl rfl dL_mineText_50 rfl ?_
      refine g_iconst (v := 1) X dL_mineText_51 (by decide) rfl ?_
      refine g_iadd X dL_mineText_52 rfl ?_
      refine g_iload X 7 rfl dL_mineText_53 rfl ?_
      refine g_iconst (v := 5) X dL_mineText_55 (by decide) rfl ?_
      refine g_irem X dL_mineText_56 (by decide) rfl ?_
      refine g_iadd X dL_mineText_57 rfl ?_
      obtain ⟨z_5, hz_5, h⟩ := bnd_s h
      refine g_callSIX (rm := rm_L_cell) (As := [.ref a_q0, .int ((v1 + 1) + (v8 - v8 / 5 * 5))]) (r := z_5) (W0 := []) (W1 := []) (isC := []) (isR := [0, 1]) (perm := [0, 1]) (ws' := (w_L_mineText cA a_q0 a_q3 a_q4 n_q3 n_q4 c_q3 c_q4)) X (c_L_cell l D cA a_q0 n_q0 c_q0 ((v1 + 1) + (v8 - v8 / 5 * 5)) _ hz_5) hX gL_mineText_L_cell rfl rfl rfl hd_L_cell ⟨Nat.le_of_ble_eq_true rfl, Nat.le_of_ble_eq_true rfl⟩ rfl rfl (Nat.le_of_ble_eq_true rfl) rfl (by decide +kernel) rfl (by decide +kernel) (by decide +kernel) (by decide) rfl (by decide +kernel) dL_mineText_58 rfl ?_
      refine g_bipush (v := 12) X dL_mineText_61 (by decide) rfl ?_
      refine g_iload X 7 rfl dL_mineText_63 rfl ?_
      refine g_iconst (v := 5) X dL_mineText_65 (by decide) rfl ?_
      refine g_idiv X dL_mineText_66 (by decide) rfl ?_
      refine g_imul X dL_mineText_67 rfl ?_
      refine g_ishr X dL_mineText_68 rfl ?_
      refine g_nami h (fun v9_6 h => ?_)
      refine g_istore (lv' := [(9, .int v9_6), (0, .ref a_q0), (1, .int v1), (3, .ref a_q3), (4, .ref a_q4), (5, .int v5), (6, .int v6), (7, .int v7), (8, .int v8)]) X (by decide) rfl dL_mineText_69 rfl ?_
      refine g_aload_n X 3 rfl rfl dL_mineText_71 rfl ?_
      refine g_iconst (v := 1) X dL_mineText_72 (by decide) rfl ?_
      refine g_iload X 8 rfl dL_mineText_73 rfl ?_
      refine g_iadd X dL_mineText_75 rfl ?_
      refine g_iload X 0 rfl dL_mineText_76 rfl ?_
      refine g_iload X 7 rfl dL_mineText_78 rfl ?_
      obtain ⟨z_7, hz_7, h⟩ := bnd_s h
      refine g_callSI (rm := rm_L_at) (As := [.int v9_6, .int v7]) (r := z_7) (W0 := []) (W1 := []) (isC := []) (isR := [0, 1]) (perm := [0, 1]) (ws' := (w_L_mineText cA a_q0 a_q3 a_q4 n_q3 n_q4 c_q3 c_q4)) X (c_L_at l D cA v9_6 v7 _ hz_7) gL_mineText_L_at rfl rfl rfl hd_L_at ⟨Nat.le_of_ble_eq_true rfl, Nat.le_of_ble_eq_true rfl⟩ rfl rfl (Nat.le_of_ble_eq_true rfl) rfl (by decide +kernel) rfl (by decide +kernel) (by decide +kernel) (by decide) rfl (by decide +kernel) dL_mineText_80 rfl ?_
      refine g_iast (ws' := (w_L_mineText cA a_q0 a_q3 a_q4 n_q3 n_q4 (upd c_q3 (Int32.toNatClampNeg (1 + v8)) z_7) c_q4)) X 0 rfl rfl dL_mineText_83 rfl h (fun h => ?_)
      refine g_aload_n X 3 rfl rfl dL_mineText_84 rfl ?_
      refine g_bipush (v := 11) X dL_mineText_85 (by decide) rfl ?_
      refine g_iload X 8 rfl dL_mineText_87 rfl ?_
      refine g_iadd X dL_mineText_89 rfl ?_
      refine g_aload_n X 3 rfl rfl dL_mineText_90 rfl ?_
      refine g_iconst (v := 1) X dL_mineText_91 (by decide) rfl ?_
      refine g_iload X 8 rfl dL_mineText_92 rfl ?_
      refine g_iadd X dL_mineText_94 rfl ?_
      refine g_iald X 0 rfl dL_mineText_95 rfl h (fun h => ?_)
      refine g_iconst (v := 1) X dL_mineText_96 (by decide) rfl ?_
      refine g_iadd X dL_mineText_97 rfl ?_
      refine g_iload X 0 rfl dL_mineText_98 rfl ?_
      refine g_iconst (v := 3) X dL_mineText_100 (by decide) rfl ?_
      refine g_ishr X dL_mineText_101 rfl ?_
      refine g_iload X 7 rfl dL_mineText_102 rfl ?_
      refine g_iconst (v := 1) X dL_mineText_104 (by decide) rfl ?_
      refine g_isub X dL_mineText_105 rfl ?_
      obtain ⟨z_8, hz_8, h⟩ := bnd_s h
      refine g_callSI (rm := rm_L_at) (As := [.int (v9_6 >>> (3 &&& 31)), .int (v7 - 1)]) (r := z_8) (W0 := []) (W1 := []) (isC := []) (isR := [0, 1]) (perm := [0, 1]) (ws' := (w_L_mineText cA a_q0 a_q3 a_q4 n_q3 n_q4 (upd c_q3 (Int32.toNatClampNeg (1 + v8)) z_7) c_q4)) X (c_L_at l D cA (v9_6 >>> (3 &&& 31)) (v7 - 1) _ hz_8) gL_mineText_L_at rfl rfl rfl hd_L_at ⟨Nat.le_of_ble_eq_true rfl, Nat.le_of_ble_eq_true rfl⟩ rfl rfl (Nat.le_of_ble_eq_true rfl) rfl (by decide +kernel) rfl (by decide +kernel) (by decide +kernel) (by decide) rfl (by decide +kernel) dL_mineText_106 rfl ?_
      refine g_iadd X dL_mineText_109 rfl ?_
      refine g_iload X 7 rfl dL_mineText_110 rfl ?_
      obtain ⟨c_9, h⟩ := ite_n h
      refine g_irem X dL_mineText_112 c_9 rfl ?_
      refine g_iast (ws' := (w_L_mineText cA a_q0 a_q3 a_q4 n_q3 n_q4 (upd (upd c_q3 (Int32.toNatClampNeg (1 + v8)) z_7) (Int32.toNatClampNeg (11 + v8)) (((((upd c_q3 (Int32.toNatClampNeg (1 + v8)) z_7) (1 + v8).toNatClampNeg) + 1) + z_8) - ((((upd c_q3 (Int32.toNatClampNeg (1 + v8)) z_7) (1 + v8).toNatClampNeg) + 1) + z_8) / v7 * v7)) c_q4)) X 0 rfl rfl dL_mineText_113 rfl h (fun h => ?_)
      refine g_aload_n X 3 rfl rfl dL_mineText_114 rfl ?_
      refine g_bipush (v := 21) X dL_mineText_115 (by decide) rfl ?_
      refine g_iload X 8 rfl dL_mineText_117 rfl ?_
      refine g_iadd X dL_mineText_119 rfl ?_
      refine g_iconst (v := 1) X dL_mineText_120 (by decide) rfl ?_
      refine g_iload X 0 rfl dL_mineText_121 rfl ?_
      refine g_bipush (v := 6) X dL_mineText_123 (by decide) rfl ?_
      refine g_ishr X dL_mineText_125 rfl ?_
      refine g_bipush (v := 9) X dL_mineText_126 (by decide) rfl ?_
      obtain ⟨z_10, hz_10, h⟩ := bnd_s h
      refine g_callSI (rm := rm_L_at) (As := [.int (v9_6 >>> (6 &&& 31)), .int 9]) (r := z_10) (W0 := []) (W1 := []) (isC := []) (isR := [0, 1]) (perm := [0, 1]) (ws' := (w_L_mineText cA a_q0 a_q3 a_q4 n_q3 n_q4 (upd (upd c_q3 (Int32.toNatClampNeg (1 + v8)) z_7) (Int32.toNatClampNeg (11 + v8)) (((((upd c_q3 (Int32.toNatClampNeg (1 + v8)) z_7) (1 + v8).toNatClampNeg) + 1) + z_8) - ((((upd c_q3 (Int32.toNatClampNeg (1 + v8)) z_7) (1 + v8).toNatClampNeg) + 1) + z_8) / v7 * v7)) c_q4)) X (c_L_at l D cA (v9_6 >>> (6 &&& 31)) 9 _ hz_10) gL_mineText_L_at rfl rfl rfl hd_L_at ⟨Nat.le_of_ble_eq_true rfl, Nat.le_of_ble_eq_true rfl⟩ rfl rfl (Nat.le_of_ble_eq_true rfl) rfl (by decide +kernel) rfl (by decide +kernel) (by decide +kernel) (by decide) rfl (by decide +kernel) dL_mineText_128 rfl ?_
      refine g_iadd X dL_mineText_131 rfl ?_
      refine g_iast (ws' := (w_L_mineText cA a_q0 a_q3 a_q4 n_q3 n_q4 (upd (upd (upd c_q3 (Int32.toNatClampNeg (1 + v8)) z_7) (Int32.toNatClampNeg (11 + v8)) (((((upd c_q3 (Int32.toNatClampNeg (1 + v8)) z_7) (1 + v8).toNatClampNeg) + 1) + z_8) - ((((upd c_q3 (Int32.toNatClampNeg (1 + v8)) z_7) (1 + v8).toNatClampNeg) + 1) + z_8) / v7 * v7)) (Int32.toNatClampNeg (21 + v8)) (1 + z_10)) c_q4)) X 0 rfl rfl dL_mineText_132 rfl h (fun h => ?_)
      refine g_aload_n X 3 rfl rfl dL_mineText_133 rfl ?_
      refine g_bipush (v := 31) X dL_mineText_134 (by decide) rfl ?_
      refine g_iload X 8 rfl dL_mineText_136 rfl ?_
      refine g_iadd X dL_mineText_138 rfl ?_
      refine g_iload X 0 rfl dL_mineText_139 rfl ?_
      refine g_bipush (v := 10) X dL_mineText_141 (by decide) rfl ?_
      refine g_ishr X dL_mineText_143 rfl ?_
      refine g_iconst (v := 2) X dL_mineText_144 (by decide) rfl ?_
      obtain ⟨z_11, hz_11, h⟩ := bnd_s h
      refine g_callSI (rm := rm_L_at) (As := [.int (v9_6 >>> (10 &&& 31)), .int 2]) (r := z_11) (W0 := []) (W1 := []) (isC := []) (isR := [0, 1]) (perm := [0, 1]) (ws' := (w_L_mineText cA a_q0 a_q3 a_q4 n_q3 n_q4 (upd (upd (upd c_q3 (Int32.toNatClampNeg (1 + v8)) z_7) (Int32.toNatClampNeg (11 + v8)) (((((upd c_q3 (Int32.toNatClampNeg (1 + v8)) z_7) (1 + v8).toNatClampNeg) + 1) + z_8) - ((((upd c_q3 (Int32.toNatClampNeg (1 + v8)) z_7) (1 + v8).toNatClampNeg) + 1) + z_8) / v7 * v7)) (Int32.toNatClampNeg (21 + v8)) (1 + z_10)) c_q4)) X (c_L_at l D cA (v9_6 >>> (10 &&& 31)) 2 _ hz_11) gL_mineText_L_at rfl rfl rfl hd_L_at ⟨Nat.le_of_ble_eq_true rfl, Nat.le_of_ble_eq_true rfl⟩ rfl rfl (Nat.le_of_ble_eq_true rfl) rfl (by decide +kernel) rfl (by decide +kernel) (by decide +kernel) (by decide) rfl (by decide +kernel) dL_mineText_145 rfl ?_
      refine g_iast (ws' := (w_L_mineText cA a_q0 a_q3 a_q4 n_q3 n_q4 (upd (upd (upd (upd c_q3 (Int32.toNatClampNeg (1 + v8)) z_7) (Int32.toNatClampNeg (11 + v8)) (((((upd c_q3 (Int32.toNatClampNeg (1 + v8)) z_7) (1 + v8).toNatClampNeg) + 1) + z_8) - ((((upd c_q3 (Int32.toNatClampNeg (1 + v8)) z_7) (1 + v8).toNatClampNeg) + 1) + z_8) / v7 * v7)) (Int32.toNatClampNeg (21 + v8)) (1 + z_10)) (Int32.toNatClampNeg (31 + v8)) z_11) c_q4)) X 0 rfl rfl dL_mineText_148 rfl h (fun h => ?_)
      refine g_aload_n X 3 rfl rfl dL_mineText_149 rfl ?_
      refine g_bipush (v := 41) X dL_mineText_150 (by decide) rfl ?_
      refine g_iload X 8 rfl dL_mineText_152 rfl ?_
      refine g_iadd X dL_mineText_154 rfl ?_
      refine g_iconst (v := 1) X dL_mineText_155 (by decide) rfl ?_
      refine g_iast (ws' := (w_L_mineText cA a_q0 a_q3 a_q4 n_q3 n_q4 (upd (upd (upd (upd (upd c_q3 (Int32.toNatClampNeg (1 + v8)) z_7) (Int32.toNatClampNeg (11 + v8)) (((((upd c_q3 (Int32.toNatClampNeg (1 + v8)) z_7) (1 + v8).toNatClampNeg) + 1) + z_8) - ((((upd c_q3 (Int32.toNatClampNeg (1 + v8)) z_7) (1 + v8).toNatClampNeg) + 1) + z_8) / v7 * v7)) (Int32.toNatClampNeg (21 + v8)) (1 + z_10)) (Int32.toNatClampNeg (31 + v8)) z_11) (Int32.toNatClampNeg (41 + v8)) 1) c_q4)) X 0 rfl rfl dL_mineText_156 rfl h (fun h => ?_)
      refine g_iload X 8 rfl dL_mineText_157 rfl ?_
      refine g_if_le (tgt := 172) X dL_mineText_159 (by decide) rfl h (fun c_12 h => ?_) (fun c_12 h => ?_)
      · refine g_lvs [1, 2, 3, 4, 5, 6, 7, 8] rfl ?_
        exact t_L_mineText_b172 X hX hret ih h
      · refine g_aload X 4 rfl dL_mineText_162 rfl ?_
        refine g_iload X 6 rfl dL_mineText_164 rfl ?_
        obtain ⟨v6_13, ev6_13, h⟩ := nam_s h
        refine g_iinc (v := v6_13) (lv' := [(6, .int v6_13), (9, .int v9_6), (0, .ref a_q0), (1, .int v1), (3, .ref a_q3), (4, .ref a_q4), (5, .int v5), (7, .int v7), (8, .int v8)]) X 6 rfl (by rw [ev6_13]; rfl) (by decide) rfl dL_mineText_166 rfl ?_
        refine g_bipush (v := 44) X dL_mineText_169 (by decide) rfl ?_
        refine g_iast (ws' := (w_L_mineText cA a_q0 a_q3 a_q4 n_q3 n_q4 (upd (upd (upd (upd (upd c_q3 (Int32.toNatClampNeg (1 + v8)) z_7) (Int32.toNatClampNeg (11 + v8)) (((((upd c_q3 (Int32.toNatClampNeg (1 + v8)) z_7) (1 + v8).toNatClampNeg) + 1) + z_8) - ((((upd c_q3 (Int32.toNatClampNeg (1 + v8)) z_7) (1 + v8).toNatClampNeg) + 1) + z_8) / v7 * v7)) (Int32.toNatClampNeg (21 + v8)) (1 + z_10)) (Int32.toNatClampNeg (31 + v8)) z_11) (Int32.toNatClampNeg (41 + v8)) 1) (upd c_q4 (Int32.toNatClampNeg v6) 44))) X 1 rfl rfl dL_mineText_171 rfl h (fun h => ?_)
        refine g_lvs [2, 3, 4, 5, 6, 0, 7, 8] rfl ?_
        exact t_L_mineText_b172 X hX hret ih h
set_option maxHeartbeats 4000000 in
set_option maxRecDepth 100000 in
theorem c_L_mineText (l : Launch) (D : va_G) (cA : ClassId) (a_q0 a_q3 a_q4 : Nat)  (n_q3 : Nat) (n_q4 : Nat) (n_q0 : Nat) (c_q0 : A32) (c_q3 : A32) (c_q4 : A32) (v1 : Int32) (v2 : Int32) (z : Int32 × A32 × A32) (h : f_L_mineText n_q3 n_q4 n_q0 c_q0 c_q3 c_q4 v1 v2 = some z) : CtX l yL_mineText wsL_mineText rm_L_mineText D cA a_q0 n_q0 c_q0 [.ref a_q0, .int v1, .int v2, .ref a_q3, .ref a_q4] (w_L_mineText cA a_q0 a_q3 a_q4 n_q3 n_q4 c_q3 c_q4) z.1 (w_L_mineText cA a_q0 a_q3 a_q4 n_q3 n_q4 z.2.1 z.2.2) := by
  refine ct_X (maxL := 11) (ty := .int) (cc := cL_mineText) (by decide) rfl (Nat.le_of_ble_eq_true rfl) rfl (fun p e s m args below meth c A Q X hX hret => ?_)
  have h : (Option.bind (f_L_cell n_q0 c_q0 v1) fun z_1 => Option.bind (f_L_at z_1 5) fun z_2 => nam (3 + z_2) fun v7_3 => Option.bind (f_L_at (z_1 >>> (3 &&& 31)) v2) fun z_4 => if inB 0 n_q3 then if inB 51 n_q3 then f_L_mineText_b41 n_q3 n_q4 n_q0 c_q0 v1 z_1 v7_3 FU (upd (upd c_q3 (Int32.toNatClampNeg 0) (1 + z_4)) (Int32.toNatClampNeg 51) 0) c_q4 0 0 else none else none : Option (Int32 × A32 × A32)) = some z := h
  refine g_aload_n X 0 rfl rfl dL_mineText_0 rfl ?_
  refine g_iload_n X 1 rfl rfl dL_mineText_1 rfl ?_
  obtain ⟨z_1, hz_1, h⟩ := bnd_s h
  refine g_callSIX (rm := rm_L_cell) (As := [.ref a_q0, .int v1]) (r := z_1) (W0 := []) (W1 := []) (isC := []) (isR := [0, 1]) (perm := [0, 1]) (ws' := (w_L_mineText cA a_q0 a_q3 a_q4 n_q3 n_q4 c_q3 c_q4)) X (c_L_cell l D cA a_q0 n_q0 c_q0 v1 _ hz_1) hX gL_mineText_L_cell rfl rfl rfl hd_L_cell ⟨Nat.le_of_ble_eq_true rfl, Nat.le_of_ble_eq_true rfl⟩ rfl rfl (Nat.le_of_ble_eq_true rfl) rfl (by decide +kernel) rfl (by decide +kernel) (by decide +kernel) (by decide) rfl (by decide +kernel) dL_mineText_2 rfl ?_
  refine g_istore (lv' := [(5, .int z_1), (0, .ref a_q0), (1, .int v1), (2, .int v2), (3, .ref a_q3), (4, .ref a_q4)]) X (by decide) rfl dL_mineText_5 rfl ?_
  refine g_iconst (v := 0) X dL_mineText_7 (by decide) rfl ?_
  refine g_istore (lv' := [(6, .int 0), (5, .int z_1), (0, .ref a_q0), (1, .int v1), (2, .int v2), (3, .ref a_q3), (4, .ref a_q4)]) X (by decide) rfl dL_mineText_8 rfl ?_
  refine g_iconst (v := 3) X dL_mineText_10 (by decide) rfl ?_
  refine g_iload X 1 rfl dL_mineText_11 rfl ?_
  refine g_iconst (v := 5) X dL_mineText_13 (by decide) rfl ?_
  obtain ⟨z_2, hz_2, h⟩ := bnd_s h
  refine g_callSI (rm := rm_L_at) (As := [.int z_1, .int 5]) (r := z_2) (W0 := []) (W1 := []) (isC := []) (isR := [0, 1]) (perm := [0, 1]) (ws' := (w_L_mineText cA a_q0 a_q3 a_q4 n_q3 n_q4 c_q3 c_q4)) X (c_L_at l D cA z_1 5 _ hz_2) gL_mineText_L_at rfl rfl rfl hd_L_at ⟨Nat.le_of_ble_eq_true rfl, Nat.le_of_ble_eq_true rfl⟩ rfl rfl (Nat.le_of_ble_eq_true rfl) rfl (by decide +kernel) rfl (by decide +kernel) (by decide +kernel) (by decide) rfl (by decide +kernel) dL_mineText_14 rfl ?_
  refine g_iadd X dL_mineText_17 rfl ?_
  refine g_nami h (fun v7_3 h => ?_)
  refine g_istore (lv' := [(7, .int v7_3), (6, .int 0), (5, .int z_1), (0, .ref a_q0), (1, .int v1), (2, .int v2), (3, .ref a_q3), (4, .ref a_q4)]) X (by decide) rfl dL_mineText_18 rfl ?_
  refine g_aload_n X 6 rfl rfl dL_mineText_20 rfl ?_
  refine g_iconst (v := 0) X dL_mineText_21 (by decide) rfl ?_
  refine g_iconst (v := 1) X dL_mineText_22 (by decide) rfl ?_
  refine g_iload X 2 rfl dL_mineText_23 rfl ?_
  refine g_iconst (v := 3) X dL_mineText_25 (by decide) rfl ?_
  refine g_ishr X dL_mineText_26 rfl ?_
  refine g_iload_n X 5 rfl rfl dL_mineText_27 rfl ?_
  obtain ⟨z_4, hz_4, h⟩ := bnd_s h
  refine g_callSI (rm := rm_L_at) (As := [.int (z_1 >>> (3 &&& 31)), .int v2]) (r := z_4) (W0 := []) (W1 := []) (isC := []) (isR := [0, 1]) (perm := [0, 1]) (ws' := (w_L_mineText cA a_q0 a_q3 a_q4 n_q3 n_q4 c_q3 c_q4)) X (c_L_at l D cA (z_1 >>> (3 &&& 31)) v2 _ hz_4) gL_mineText_L_at rfl rfl rfl hd_L_at ⟨Nat.le_of_ble_eq_true rfl, Nat.le_of_ble_eq_true rfl⟩ rfl rfl (Nat.le_of_ble_eq_true rfl) rfl (by decide +kernel) rfl (by decide +kernel) (by decide +kernel) (by decide) rfl (by decide +kernel) dL_mineText_28 rfl ?_
  refine g_iadd X dL_mineText_31 rfl ?_
  refine g_iast (ws' := (w_L_mineText cA a_q0 a_q3 a_q4 n_q3 n_q4 (upd c_q3 (Int32.toNatClampNeg 0) (1 + z_4)) c_q4)) X 0 rfl rfl dL_mineText_32 rfl h (fun h => ?_)
  refine g_aload_n X 6 rfl rfl dL_mineText_33 rfl ?_
  refine g_bipush (v := 51) X dL_mineText_34 (by decide) rfl ?_
  refine g_iconst (v := 0) X dL_mineText_36 (by decide) rfl ?_
  refine g_iast (ws' := (w_L_mineText cA a_q0 a_q3 a_q4 n_q3 n_q4 (upd (upd c_q3 (Int32.toNatClampNeg 0) (1 + z_4)) (Int32.toNatClampNeg 51) 0) c_q4)) X 0 rfl rfl dL_mineText_37 rfl h (fun h => ?_)
  refine g_iconst (v := 0) X dL_mineText_38 (by decide) rfl ?_
  refine g_istore (lv' := [(8, .int 0), (7, .int v7_3), (6, .int 0), (5, .int z_1), (0, .ref a_q0), (1, .int v1), (2, .int v2), (3, .ref a_q3), (4, .ref a_q4)]) X (by decide) rfl dL_mineText_39 rfl ?_
  refine g_lvs [4, 5, 7, 8, 3, 2, 1, 0] rfl ?_
  exact t_L_mineText_b41 X hX hret _ _ _ _ _ h
abbrev rm_L_write : Room := { frames := 3, cells := 0, slots := 0, locals := 69 }
theorem hd_L_write : yL_write.cls ≠ "java/lang/invoke/MethodHandle" ∧ yL_write.cls ≠ "java/lang/invoke/VarHandle" ∧ (parseMethodDescriptor yL_write.desc).map (fun d => d.parameters.length) = some 3 := by decide +kernel
abbrev w_L_write (cA : ClassId) (a_q0 a_q1 a_q0_page a_q0_plan a_q0_air a_q0_trial a_q0_smoke a_q0_crew a_q0_now a_q0_kept a_q0_dream a_q0_draws a_q0_rescuers a_q0_page_letters a_q0_page_reader a_q0_page_letters_cells : Nat) (u_q0_minesRead : Int32) (u_q0_doorsDone : Int32) (u_q0_keptMine : Int32) (u_q0_keptMen : Int32) (n_q1 : Nat) (c_q0_page_length : Int32) (c_q0_page_letters : A32) (c_q1 : A32) : va_W := [(a_q0, .inr (10, [.ref a_q0_page, .ref a_q0_plan, .ref a_q0_air, .ref a_q0_trial, .ref a_q0_smoke, .ref a_q0_crew, .ref a_q0_now, .ref a_q0_kept, .ref a_q0_dream, .ref a_q0_draws, .ref a_q0_rescuers, .int u_q0_minesRead, .int u_q0_doorsDone, .int u_q0_keptMine, .int u_q0_keptMen])), (a_q0_page, .inr (4, [.ref a_q0_page_letters, .int c_q0_page_length, .ref a_q0_page_reader])), (a_q0_page_letters, .inr (8, [.ref a_q0_page_letters_cells])), (a_q0_page_letters_cells, .inl (cA, 66, .inl c_q0_page_letters)), (a_q1, .inl (cA, n_q1, .inl c_q1))]
set_option maxHeartbeats 4000000 in
set_option maxRecDepth 100000 in
theorem t_L_write_b2 {l : Launch} {D : va_G} {cA : ClassId} {p : Program} {e : Env} {s : State} {m : MethodId} {args : Array Value} {below : List Frame} {meth : Method} {c : Code} {A : Nat → Prop} {Q : State → Prop} {z : Int32 × Int32 × A32} {a_q0 a_q1 a_q0_page a_q0_plan a_q0_air a_q0_trial a_q0_smoke a_q0_crew a_q0_now a_q0_kept a_q0_dream a_q0_draws a_q0_rescuers a_q0_page_letters a_q0_page_reader a_q0_page_letters_cells : Nat} {u_q0_minesRead : Int32} {u_q0_doorsDone : Int32} {u_q0_keptMine : Int32} {u_q0_keptMen : Int32}  {n_q1 : Nat} {c_q1 : A32} {v2 : Int32}  (X : GX p s m args c cL_write RL wsL_write D cA A 4) (hret : RtI p l e rm_L_write s m args below meth c cL_write D A 4 0 0 Q .boolean z.1 (w_L_write cA a_q0 a_q1 a_q0_page a_q0_plan a_q0_air a_q0_trial a_q0_smoke a_q0_crew a_q0_now a_q0_kept a_q0_dream a_q0_draws a_q0_rescuers a_q0_page_letters a_q0_page_reader a_q0_page_letters_cells u_q0_minesRead u_q0_doorsDone u_q0_keptMine u_q0_keptMen n_q1 z.2.1 z.2.2 c_q1))  : ∀ (fu : Nat) (c_q0_page_length : Int32) (c_q0_page_letters : A32) (v3 : Int32), f_L_write_b2 n_q1 c_q1 v2 fu c_q0_page_length c_q0_page_letters v3 = some z → G p l e rm_L_write s m args below meth c D A 4 0 0 Q 2 [(0, .ref a_q0), (1, .ref a_q1), (2, .int v2), (3, .int v3)] [] (w_L_write cA a_q0 a_q1 a_q0_page a_q0_plan a_q0_air a_q0_trial a_q0_smoke a_q0_crew a_q0_now a_q0_kept a_q0_dream a_q0_draws a_q0_rescuers a_q0_page_letters a_q0_page_reader a_q0_page_letters_cells u_q0_minesRead u_q0_doorsDone u_q0_keptMine u_q0_keptMen n_q1 c_q0_page_length c_q0_page_letters c_q1) := by
  intro fu
  induction fu with
  | zero => intro c_q0_page_length c_q0_page_letters v3 h; exact absurd (show (none : Option (Int32 × Int32 × A32)) = some z from h) (by simp)
  | succ fu ih =>
    intro c_q0_page_length c_q0_page_letters v3 h
    have h : (if v2 ≤ v3 then some (1, c_q0_page_length, c_q0_page_letters) else if inB v3 n_q1 then Option.bind (f_X10_letters c_q0_page_length c_q0_page_letters (Int32.toInt64 (c_q1 v3.toNatClampNeg))) fun z_2 => if z_2.1 = (v3 + 1) then nam (v3 + 1) fun v3_4 => (f_L_write_b2 n_q1 c_q1 v2 fu) z_2.2.1 z_2.2.2 v3_4 else some (0, z_2.2.1, z_2.2.2) else none : Option (Int32 × Int32 × A32)) = some z := h
    refine g_iload_n X 3 rfl rfl dL_write_2 rfl ?_
    refine g_iload_n X 2 rfl rfl dL_write_3 rfl ?_
    refine g_icmp_ge (tgt := 29) X dL_write_4 (by decide) rfl h (fun c_1 h => ?_) (fun c_1 h => ?_)
    · refine g_iconst (v := 1) X dL_write_29 (by decide) rfl ?_
      cases Option.some.inj h
      exact hret _ _ dL_write_30 (nar_z (Or.inr rfl))
    · refine g_aload_n X 0 rfl rfl dL_write_7 rfl ?_
      refine g_aload_n X 1 rfl rfl dL_write_8 rfl ?_
      refine g_iload_n X 3 rfl rfl dL_write_9 rfl ?_
      refine g_iald X 4 rfl dL_write_10 rfl h (fun h => ?_)
      refine g_i2l X dL_write_11 rfl ?_
      obtain ⟨z_2, hz_2, h⟩ := bnd_s h
      refine g_callVI (rm := rm_X10_letters) (As := [.long (Int32.toInt64 (c_q1 v3.toNatClampNeg))]) (r := z_2.1) (W0 := (w_X10_letters cA a_q0 a_q0_page a_q0_plan a_q0_air a_q0_trial a_q0_smoke a_q0_crew a_q0_now a_q0_kept a_q0_dream a_q0_draws a_q0_rescuers a_q0_page_letters a_q0_page_reader a_q0_page_letters_cells u_q0_minesRead u_q0_doorsDone u_q0_keptMine u_q0_keptMen c_q0_page_length c_q0_page_letters)) (W1 := (w_X10_letters cA a_q0 a_q0_page a_q0_plan a_q0_air a_q0_trial a_q0_smoke a_q0_crew a_q0_now a_q0_kept a_q0_dream a_q0_draws a_q0_rescuers a_q0_page_letters a_q0_page_reader a_q0_page_letters_cells u_q0_minesRead u_q0_doorsDone u_q0_keptMine u_q0_keptMen z_2.2.1 z_2.2.2)) (isC := [0, 1, 2, 3]) (isR := [4]) (perm := [1, 2, 3, 4, 0]) (ws' := (w_L_write cA a_q0 a_q1 a_q0_page a_q0_plan a_q0_air a_q0_trial a_q0_smoke a_q0_crew a_q0_now a_q0_kept a_q0_dream a_q0_draws a_q0_rescuers a_q0_page_letters a_q0_page_reader a_q0_page_letters_cells u_q0_minesRead u_q0_doorsDone u_q0_keptMine u_q0_keptMen n_q1 z_2.2.1 z_2.2.2 c_q1)) X (c_X10_letters l D cA a_q0 a_q0_page a_q0_plan a_q0_air a_q0_trial a_q0_smoke a_q0_crew a_q0_now a_q0_kept a_q0_dream a_q0_draws a_q0_rescuers a_q0_page_letters a_q0_page_reader a_q0_page_letters_cells u_q0_minesRead u_q0_doorsDone u_q0_keptMine u_q0_keptMen c_q0_page_length c_q0_page_letters (Int32.toInt64 (c_q1 v3.toNatClampNeg)) _ hz_2) 0 rfl rfl rfl gL_write_X10_letters rfl rfl rfl ⟨rfl, hd_X10_letters⟩ ⟨Nat.le_of_ble_eq_true rfl, Nat.le_of_ble_eq_true rfl⟩ rfl rfl (Nat.le_of_ble_eq_true rfl) rfl (by decide +kernel) rfl (by decide +kernel) (by decide +kernel) (by decide) rfl (by decide +kernel) dL_write_12 rfl ?_
      refine g_iload_n X 3 rfl rfl dL_write_15 rfl ?_
      refine g_iconst (v := 1) X dL_write_16 (by decide) rfl ?_
      refine g_iadd X dL_write_17 rfl ?_
      refine g_icmp_eq (tgt := 23) X dL_write_18 (by decide) rfl h (fun c_3 h => ?_) (fun c_3 h => ?_)
      · obtain ⟨v3_4, ev3_4, h⟩ := nam_s h
        refine g_iinc (v := v3_4) (lv' := [(3, .int v3_4), (0, .ref a_q0), (1, .ref a_q1), (2, .int v2)]) X 3 rfl (by rw [ev3_4]; rfl) (by decide) rfl dL_write_23 rfl ?_
        refine g_goto (tgt := 2) X dL_write_26 (by decide) ?_
        refine g_lvs [1, 2, 3, 0] rfl ?_
        exact ih _ _ _ h
      · refine g_iconst (v := 0) X dL_write_21 (by decide) rfl ?_
        cases Option.some.inj h
        exact hret _ _ dL_write_22 (nar_z (Or.inl rfl))
set_option maxHeartbeats 4000000 in
set_option maxRecDepth 100000 in
theorem c_L_write (l : Launch) (D : va_G) (cA : ClassId) (a_q0 a_q1 a_q0_page a_q0_plan a_q0_air a_q0_trial a_q0_smoke a_q0_crew a_q0_now a_q0_kept a_q0_dream a_q0_draws a_q0_rescuers a_q0_page_letters a_q0_page_reader a_q0_page_letters_cells : Nat) (u_q0_minesRead : Int32) (u_q0_doorsDone : Int32) (u_q0_keptMine : Int32) (u_q0_keptMen : Int32) (n_q1 : Nat) (c_q0_page_length : Int32) (c_q0_page_letters : A32) (c_q1 : A32) (v2 : Int32) (z : Int32 × Int32 × A32) (h : f_L_write n_q1 c_q0_page_length c_q0_page_letters c_q1 v2 = some z) : CtI l yL_write wsL_write rm_L_write D cA [.ref a_q0, .ref a_q1, .int v2] (w_L_write cA a_q0 a_q1 a_q0_page a_q0_plan a_q0_air a_q0_trial a_q0_smoke a_q0_crew a_q0_now a_q0_kept a_q0_dream a_q0_draws a_q0_rescuers a_q0_page_letters a_q0_page_reader a_q0_page_letters_cells u_q0_minesRead u_q0_doorsDone u_q0_keptMine u_q0_keptMen n_q1 c_q0_page_length c_q0_page_letters c_q1) z.1 (w_L_write cA a_q0 a_q1 a_q0_page a_q0_plan a_q0_air a_q0_trial a_q0_smoke a_q0_crew a_q0_now a_q0_kept a_q0_dream a_q0_draws a_q0_rescuers a_q0_page_letters a_q0_page_reader a_q0_page_letters_cells u_q0_minesRead u_q0_doorsDone u_q0_keptMine u_q0_keptMen n_q1 z.2.1 z.2.2 c_q1) := by
  refine ct_I (maxL := 4) (ty := .boolean) (cc := cL_write) (by decide) rfl (Nat.le_of_ble_eq_true rfl) rfl (fun p e s m args below meth c A Q X hret => ?_)
  have h : (f_L_write_b2 n_q1 c_q1 v2 FU c_q0_page_length c_q0_page_letters 0 : Option (Int32 × Int32 × A32)) = some z := h
  refine g_iconst (v := 0) X dL_write_0 (by decide) rfl ?_
  refine g_istore_n (lv' := [(3, .int 0), (0, .ref a_q0), (1, .ref a_q1), (2, .int v2)]) X rfl (by decide) rfl dL_write_1 rfl ?_
  refine g_lvs [1, 2, 3, 0] rfl ?_
  exact t_L_write_b2 X hret _ _ _ _ h
abbrev rm_L_men : Room := { frames := 2, cells := 0, slots := 0, locals := 45 }
theorem hd_L_men : yL_men.cls ≠ "java/lang/invoke/MethodHandle" ∧ yL_men.cls ≠ "java/lang/invoke/VarHandle" ∧ (parseMethodDescriptor yL_men.desc).map (fun d => d.parameters.length) = some 5 := by decide +kernel
abbrev w_L_men (cA : ClassId) (a_q0 a_q1 a_q4 a_q0_page a_q0_plan a_q0_air a_q0_trial a_q0_smoke a_q0_crew a_q0_now a_q0_kept a_q0_dream a_q0_draws a_q0_rescuers a_q0_plan_one a_q0_plan_two a_q0_plan_length a_q0_plan_draught a_q0_crew_kinds a_q0_crew_kinds_cells a_q0_now_gas a_q0_now_place a_q0_now_place_cells : Nat) (u_q0_minesRead : Int32) (u_q0_doorsDone : Int32) (u_q0_keptMine : Int32) (u_q0_keptMen : Int32) (u_q0_plan_doors : Int32) (u_q0_plan_shafts : Int32) (u_q0_now_open : Int32) (u_q0_now_moon : Int32) (u_q0_now_out : Int32) (u_q0_now_gone : Int32) (n_q4 : Nat) (c_q0_plan_galleries : Int32) (c_q0_crew_size : Int32) (c_q0_crew_kinds : A32) (c_q0_now_place : A32) (c_q4 : A32) : va_W := [(a_q0, .inr (10, [.ref a_q0_page, .ref a_q0_plan, .ref a_q0_air, .ref a_q0_trial, .ref a_q0_smoke, .ref a_q0_crew, .ref a_q0_now, .ref a_q0_kept, .ref a_q0_dream, .ref a_q0_draws, .ref a_q0_rescuers, .int u_q0_minesRead, .int u_q0_doorsDone, .int u_q0_keptMine, .int u_q0_keptMen])), (a_q0_plan, .inr (5, [.int c_q0_plan_galleries, .ref a_q0_plan_one, .ref a_q0_plan_two, .ref a_q0_plan_length, .int u_q0_plan_doors, .ref a_q0_plan_draught, .int u_q0_plan_shafts])), (a_q0_crew, .inr (1, [.ref a_q0_crew_kinds, .int c_q0_crew_size])), (a_q0_crew_kinds, .inr (8, [.ref a_q0_crew_kinds_cells])), (a_q0_crew_kinds_cells, .inl (cA, 6, .inl c_q0_crew_kinds)), (a_q0_now, .inr (3, [.int u_q0_now_open, .int u_q0_now_moon, .ref a_q0_now_gas, .ref a_q0_now_place, .int u_q0_now_out, .int u_q0_now_gone])), (a_q0_now_place, .inr (8, [.ref a_q0_now_place_cells])), (a_q0_now_place_cells, .inl (cA, 6, .inl c_q0_now_place)), (a_q4, .inl (cA, n_q4, .inl c_q4))]
set_option maxHeartbeats 4000000 in
set_option maxRecDepth 100000 in
theorem t_L_men_b22 {l : Launch} {D : va_G} {cA : ClassId} {p : Program} {e : Env} {s : State} {m : MethodId} {args : Array Value} {below : List Frame} {meth : Method} {c : Code} {A : Nat → Prop} {Q : State → Prop} {z : Int32 × Int32 × A32 × A32 × A32} {a_q0 a_q1 a_q4 a_q0_page a_q0_plan a_q0_air a_q0_trial a_q0_smoke a_q0_crew a_q0_now a_q0_kept a_q0_dream a_q0_draws a_q0_rescuers a_q0_plan_one a_q0_plan_two a_q0_plan_length a_q0_plan_draught a_q0_crew_kinds a_q0_crew_kinds_cells a_q0_now_gas a_q0_now_place a_q0_now_place_cells : Nat} {u_q0_minesRead : Int32} {u_q0_doorsDone : Int32} {u_q0_keptMine : Int32} {u_q0_keptMen : Int32} {u_q0_plan_doors : Int32} {u_q0_plan_shafts : Int32} {u_q0_now_open : Int32} {u_q0_now_moon : Int32} {u_q0_now_out : Int32} {u_q0_now_gone : Int32}  {n_q4 : Nat} {n_q1 : Nat} {c_q1 : A32} {c_q0_plan_galleries : Int32} {v2 : Int32} {v5 : Int32}  (X : GX p s m args c cL_men RL wsL_men D cA A 7) (hX : va_X a_q1 n_q1 c_q1 s s.heap ∧ a_q1 < s.heap.size ∧ ¬ A a_q1) (hret : RtI p l e rm_L_men s m args below meth c cL_men D A 7 0 0 Q .boolean z.1 (w_L_men cA a_q0 a_q1 a_q4 a_q0_page a_q0_plan a_q0_air a_q0_trial a_q0_smoke a_q0_crew a_q0_now a_q0_kept a_q0_dream a_q0_draws a_q0_rescuers a_q0_plan_one a_q0_plan_two a_q0_plan_length a_q0_plan_draught a_q0_crew_kinds a_q0_crew_kinds_cells a_q0_now_gas a_q0_now_place a_q0_now_place_cells u_q0_minesRead u_q0_doorsDone u_q0_keptMine u_q0_keptMen u_q0_plan_doors u_q0_plan_shafts u_q0_now_open u_q0_now_moon u_q0_now_out u_q0_now_gone n_q4 c_q0_plan_galleries z.2.1 z.2.2.1 z.2.2.2.1 z.2.2.2.2))  : ∀ (fu : Nat) (c_q0_crew_size : Int32) (c_q0_crew_kinds : A32) (c_q0_now_place : A32) (c_q4 : A32) (v6 : Int32), f_L_men_b22 n_q4 n_q1 c_q1 c_q0_plan_galleries v2 v5 fu c_q0_crew_size c_q0_crew_kinds c_q0_now_place c_q4 v6 = some z → G p l e rm_L_men s m args below meth c D A 7 0 0 Q 22 [(0, .ref a_q0), (1, .ref a_q1), (2, .int v2), (4, .ref a_q4), (5, .int v5), (6, .int v6)] [] (w_L_men cA a_q0 a_q1 a_q4 a_q0_page a_q0_plan a_q0_air a_q0_trial a_q0_smoke a_q0_crew a_q0_now a_q0_kept a_q0_dream a_q0_draws a_q0_rescuers a_q0_plan_one a_q0_plan_two a_q0_plan_length a_q0_plan_draught a_q0_crew_kinds a_q0_crew_kinds_cells a_q0_now_gas a_q0_now_place a_q0_now_place_cells u_q0_minesRead u_q0_doorsDone u_q0_keptMine u_q0_keptMen u_q0_plan_doors u_q0_plan_shafts u_q0_now_open u_q0_now_moon u_q0_now_out u_q0_now_gone n_q4 c_q0_plan_galleries c_q0_crew_size c_q0_crew_kinds c_q0_now_place c_q4) := by
  intro fu
  induction fu with
  | zero => intro c_q0_crew_size c_q0_crew_kinds c_q0_now_place c_q4 v6 h; exact absurd (show (none : Option (Int32 × Int32 × A32 × A32 × A32)) = some z from h) (by simp)
  | succ fu ih =>
    intro c_q0_crew_size c_q0_crew_kinds c_q0_now_place c_q4 v6 h
    have h : (if v5 ≤ v6 then some (1, c_q0_crew_size, c_q0_crew_kinds, c_q0_now_place, c_q4) else Option.bind (f_L_cell n_q1 c_q1 v2) fun z_2 => Option.bind (f_L_at (z_2 >>> ((3 + (4 * v6)) &&& 31)) 5) fun z_3 => if inB (7 + v6) n_q4 then Option.bind (f_L_cell n_q1 c_q1 (v2 + 1)) fun z_4 => Option.bind (f_L_at (z_4 >>> ((4 * v6) &&& 31)) 7) fun z_5 => if inB (13 + v6) n_q4 then if inB (7 + v6) n_q4 then if inB (13 + v6) n_q4 then Option.bind (f_X10_man c_q0_plan_galleries c_q0_crew_size c_q0_crew_kinds c_q0_now_place ((upd (upd c_q4 (Int32.toNatClampNeg (7 + v6)) z_3) (Int32.toNatClampNeg (13 + v6)) z_5) (7 + v6).toNatClampNeg) ((upd (upd c_q4 (Int32.toNatClampNeg (7 + v6)) z_3) (Int32.toNatClampNeg (13 + v6)) z_5) (13 + v6).toNatClampNeg)) fun z_6 => if z_6.1 = v6 then if inB 20 n_q4 then if inB 20 n_q4 then nam (v6 + 1) fun v6_8 => (f_L_men_b22 n_q4 n_q1 c_q1 c_q0_plan_galleries v2 v5 fu) z_6.2.1 z_6.2.2.1 z_6.2.2.2 (upd (upd (upd c_q4 (Int32.toNatClampNeg (7 + v6)) z_3) (Int32.toNatClampNeg (13 + v6)) z_5) (Int32.toNatClampNeg 20) (((upd (upd c_q4 (Int32.toNatClampNeg (7 + v6)) z_3) (Int32.toNatClampNeg (13 + v6)) z_5) (Int32.toNatClampNeg 20)) + 1)) v6_8 else none else none else some (0, z_6.2.1, z_6.2.2.1, z_6.2.2.2, upd (upd c_q4 (Int32.toNatClampNeg (7 + v6)) z_3) (Int32.toNatClampNeg (13 + v6)) z_5) else none else none else none else none : Option (Int32 × Int32 × A32 × A32 × A32)) = some z := h
    refine g_iload X 5 rfl dL_men_22 rfl ?_
    refine g_iload X 4 rfl dL_men_24 rfl ?_
    refine g_icmp_ge (tgt := 120) X dL_men_26 (by decide) rfl h (fun c_1 h => ?_) (fun c_1 h => ?_)
    · refine g_iconst (v := 1) X dL_men_120 (by decide) rfl ?_
      cases Option.some.inj h
      exact hret _ _ dL_men_121 (nar_z (Or.inr rfl))
    · refine g_aload X 3 rfl dL_men_29 rfl ?_
      refine g_bipush (v := 7) X dL_men_31 (by decide) rfl ?_
      refine g_iload X 5 rfl dL_men_33 rfl ?_
      refine g_iadd X dL_men_35 rfl ?_
      refine g_aload_n X 1 rfl rfl dL_men_36 rfl ?_
      refine g_iload_n X 2 rfl rfl dL_men_37 rfl ?_
      obtain ⟨z_2, hz_2, h⟩ := bnd_s h
      refine g_callSIX (rm := rm_L_cell) (As := [.ref a_q1, .int v2]) (r := z_2) (W0 := []) (W1 := []) (isC := []) (isR := [0, 1, 2, 3, 4, 5, 6, 7, 8]) (perm := [0, 1, 2, 3, 4, 5, 6, 7, 8]) (ws' := (w_L_men cA a_q0 a_q1 a_q4 a_q0_page a_q0_plan a_q0_air a_q0_trial a_q0_smoke a_q0_crew a_q0_now a_q0_kept a_q0_dream a_q0_draws a_q0_rescuers a_q0_plan_one a_q0_plan_two a_q0_plan_length a_q0_plan_draught a_q0_crew_kinds a_q0_crew_kinds_cells a_q0_now_gas a_q0_now_place a_q0_now_place_cells u_q0_minesRead u_q0_doorsDone u_q0_keptMine u_q0_keptMen u_q0_plan_doors u_q0_plan_shafts u_q0_now_open u_q0_now_moon u_q0_now_out u_q0_now_gone n_q4 c_q0_plan_galleries c_q0_crew_size c_q0_crew_kinds c_q0_now_place c_q4)) X (c_L_cell l D cA a_q1 n_q1 c_q1 v2 _ hz_2) hX gL_men_L_cell rfl rfl rfl hd_L_cell ⟨Nat.le_of_ble_eq_true rfl, Nat.le_of_ble_eq_true rfl⟩ rfl rfl (Nat.le_of_ble_eq_true rfl) rfl (by decide +kernel) rfl (by decide +kernel) (by decide +kernel) (by decide) rfl (by decide +kernel) dL_men_38 rfl ?_
      refine g_iconst (v := 3) X dL_men_41 (by decide) rfl ?_
      refine g_iconst (v := 4) X dL_men_42 (by decide) rfl ?_
      refine g_iload X 5 rfl dL_men_43 rfl ?_
      refine g_imul X dL_men_45 rfl ?_
      refine g_iadd X dL_men_46 rfl ?_
      refine g_ishr X dL_men_47 rfl ?_
      refine g_iconst (v := 5) X dL_men_48 (by decide) rfl ?_
      obtain ⟨z_3, hz_3, h⟩ := bnd_s h
      refine g_callSI (rm := rm_L_at) (As := [.int (z_2 >>> ((3 + (4 * v6)) &&& 31)), .int 5]) (r := z_3) (W0 := []) (W1 := []) (isC := []) (isR := [0, 1, 2, 3, 4, 5, 6, 7, 8]) (perm := [0, 1, 2, 3, 4, 5, 6, 7, 8]) (ws' := (w_L_men cA a_q0 a_q1 a_q4 a_q0_page a_q0_plan a_q0_air a_q0_trial a_q0_smoke a_q0_crew a_q0_now a_q0_kept a_q0_dream a_q0_draws a_q0_rescuers a_q0_plan_one a_q0_plan_two a_q0_plan_length a_q0_plan_draught a_q0_crew_kinds a_q0_crew_kinds_cells a_q0_now_gas a_q0_now_place a_q0_now_place_cells u_q0_minesRead u_q0_doorsDone u_q0_keptMine u_q0_keptMen u_q0_plan_doors u_q0_plan_shafts u_q0_now_open u_q0_now_moon u_q0_now_out u_q0_now_gone n_q4 c_q0_plan_galleries c_q0_crew_size c_q0_crew_kinds c_q0_now_place c_q4)) X (c_L_at l D cA (z_2 >>> ((3 + (4 * v6)) &&& 31)) 5 _ hz_3) gL_men_L_at rfl rfl rfl hd_L_at ⟨Nat.le_of_ble_eq_true rfl, Nat.le_of_ble_eq_true rfl⟩ rfl rfl (Nat.le_of_ble_eq_true rfl) rfl (by decide +kernel) rfl (by decide +kernel) (by decide +kernel) (by decide) rfl (by decide +kernel) dL_men_49 rfl ?_
      refine g_iast (ws' := (w_L_men cA a_q0 a_q1 a_q4 a_q0_page a_q0_plan a_q0_air a_q0_trial a_q0_smoke a_q0_crew a_q0_now a_q0_kept a_q0_dream a_q0_draws a_q0_rescuers a_q0_plan_one a_q0_plan_two a_q0_plan_length a_q0_plan_draught a_q0_crew_kinds a_q0_crew_kinds_cells a_q0_now_gas a_q0_now_place a_q0_now_place_cells u_q0_minesRead u_q0_doorsDone u_q0_keptMine u_q0_keptMen u_q0_plan_doors u_q0_plan_shafts u_q0_now_open u_q0_now_moon u_q0_now_out u_q0_now_gone n_q4 c_q0_plan_galleries c_q0_crew_size c_q0_crew_kinds c_q0_now_place (upd c_q4 (Int32.toNatClampNeg (7 + v6)) z_3))) X 8 rfl rfl dL_men_52 rfl h (fun h => ?_)
      refine g_aload X 3 rfl dL_men_53 rfl ?_
      refine g_bipush (v := 13) X dL_men_55 (by decide) rfl ?_
      refine g_iload X 5 rfl dL_men_57 rfl ?_
      refine g_iadd X dL_men_59 rfl ?_
      refine g_aload_n X 1 rfl rfl dL_men_60 rfl ?_
      refine g_iload_n X 2 rfl rfl dL_men_61 rfl ?_
      refine g_iconst (v := 1) X dL_men_62 (by decide) rfl ?_
      refine g_iadd X dL_men_63 rfl ?_
      obtain ⟨z_4, hz_4, h⟩ := bnd_s h
      refine g_callSIX (rm := rm_L_cell) (As := [.ref a_q1, .int (v2 + 1)]) (r := z_4) (W0 := []) (W1 := []) (isC := []) (isR := [0, 1, 2, 3, 4, 5, 6, 7, 8]) (perm := [0, 1, 2, 3, 4, 5, 6, 7, 8]) (ws' := (w_L_men cA a_q0 a_q1 a_q4 a_q0_page a_q0_plan a_q0_air a_q0_trial a_q0_smoke a_q0_crew a_q0_now a_q0_kept a_q0_dream a_q0_draws a_q0_rescuers a_q0_plan_one a_q0_plan_two a_q0_plan_length a_q0_plan_draught a_q0_crew_kinds a_q0_crew_kinds_cells a_q0_now_gas a_q0_now_place a_q0_now_place_cells u_q0_minesRead u_q0_doorsDone u_q0_keptMine u_q0_keptMen u_q0_plan_doors u_q0_plan_shafts u_q0_now_open u_q0_now_moon u_q0_now_out u_q0_now_gone n_q4 c_q0_plan_galleries c_q0_crew_size c_q0_crew_kinds c_q0_now_place (upd c_q4 (Int32.toNatClampNeg (7 + v6)) z_3))) X (c_L_cell l D cA a_q1 n_q1 c_q1 (v2 + 1) _ hz_4) hX gL_men_L_cell rfl rfl rfl hd_L_cell ⟨Nat.le_of_ble_eq_true rfl, Nat.le_of_ble_eq_true rfl⟩ rfl rfl (Nat.le_of_ble_eq_true rfl) rfl (by decide +kernel) rfl (by decide +kernel) (by decide +kernel) (by decide) rfl (by decide +kernel) dL_men_64 rfl ?_
      refine g_iconst (v := 4) X dL_men_67 (by decide) rfl ?_
      refine g_iload X 5 rfl dL_men_68 rfl ?_
      refine g_imul X dL_men_70 rfl ?_
      refine g_ishr X dL_men_71 rfl ?_
      refine g_bipush (v := 7) X dL_men_72 (by decide) rfl ?_
      obtain ⟨z_5, hz_5, h⟩ := bnd_s h
      refine g_callSI (rm := rm_L_at) (As := [.int (z_4 >>> ((4 * v6) &&& 31)), .int 7]) (r := z_5) (W0 := []) (W1 := []) (isC := []) (isR := [0, 1, 2, 3, 4, 5, 6, 7, 8]) (perm := [0, 1, 2, 3, 4, 5, 6, 7, 8]) (ws' := (w_L_men cA a_q0 a_q1 a_q4 a_q0_page a_q0_plan a_q0_air a_q0_trial a_q0_smoke a_q0_crew a_q0_now a_q0_kept a_q0_dream a_q0_draws a_q0_rescuers a_q0_plan_one a_q0_plan_two a_q0_plan_length a_q0_plan_draught a_q0_crew_kinds a_q0_crew_kinds_cells a_q0_now_gas a_q0_now_place a_q0_now_place_cells u_q0_minesRead u_q0_doorsDone u_q0_keptMine u_q0_keptMen u_q0_plan_doors u_q0_plan_shafts u_q0_now_open u_q0_now_moon u_q0_now_out u_q0_now_gone n_q4 c_q0_plan_galleries c_q0_crew_size c_q0_crew_kinds c_q0_now_place (upd c_q4 (Int32.toNatClampNeg (7 + v6)) z_3))) X (c_L_at l D cA (z_4 >>> ((4 * v6) &&& 31)) 7 _ hz_5) gL_men_L_at rfl rfl rfl hd_L_at ⟨Nat.le_of_ble_eq_true rfl, Nat.le_of_ble_eq_true rfl⟩ rfl rfl (Nat.le_of_ble_eq_true rfl) rfl (by decide +kernel) rfl (by decide +kernel) (by decide +kernel) (by decide) rfl (by decide +kernel) dL_men_74 rfl ?_
      refine g_iast (ws' := (w_L_men cA a_q0 a_q1 a_q4 a_q0_page a_q0_plan a_q0_air a_q0_trial a_q0_smoke a_q0_crew a_q0_now a_q0_kept a_q0_dream a_q0_draws a_q0_rescuers a_q0_plan_one a_q0_plan_two a_q0_plan_length a_q0_plan_draught a_q0_crew_kinds a_q0_crew_kinds_cells a_q0_now_gas a_q0_now_place a_q0_now_place_cells u_q0_minesRead u_q0_doorsDone u_q0_keptMine u_q0_keptMen u_q0_plan_doors u_q0_plan_shafts u_q0_now_open u_q0_now_moon u_q0_now_out u_q0_now_gone n_q4 c_q0_plan_galleries c_q0_crew_size c_q0_crew_kinds c_q0_now_place (upd (upd c_q4 (Int32.toNatClampNeg (7 + v6)) z_3) (Int32.toNatClampNeg (13 + v6)) z_5))) X 8 rfl rfl dL_men_77 rfl h (fun h => ?_)
      refine g_aload_n X 0 rfl rfl dL_men_78 rfl ?_
      refine g_aload X 3 rfl dL_men_79 rfl ?_
      refine g_bipush (v := 7) X dL_men_81 (by decide) rfl ?_
      refine g_iload X 5 rfl dL_men_83 rfl ?_
      refine g_iadd X dL_men_85 rfl ?_
      refine g_iald X 8 rfl dL_men_86 rfl h (fun h => ?_)
      refine g_aload X 3 rfl dL_men_87 rfl ?_
      refine g_bipush (v := 13) X dL_men_89 (by decide) rfl ?_
      refine g_iload X 5 rfl dL_men_91 rfl ?_
      refine g_iadd X dL_men_93 rfl ?_
      refine g_iald X 8 rfl dL_men_94 rfl h (fun h => ?_)
      obtain ⟨z_6, hz_6, h⟩ := bnd_s h
      refine g_callVI (rm := rm_X10_man) (As := [.int ((upd (upd c_q4 (Int32.toNatClampNeg (7 + v6)) z_3) (Int32.toNatClampNeg (13 + v6)) z_5) (7 + v6).toNatClampNeg), .int ((upd (upd c_q4 (Int32.toNatClampNeg (7 + v6)) z_3) (Int32.toNatClampNeg (13 + v6)) z_5) (13 + v6).toNatClampNeg)]) (r := z_6.1) (W0 := (w_X10_man cA a_q0 a_q0_page a_q0_plan a_q0_air a_q0_trial a_q0_smoke a_q0_crew a_q0_now a_q0_kept a_q0_dream a_q0_draws a_q0_rescuers a_q0_plan_one a_q0_plan_two a_q0_plan_length a_q0_plan_draught a_q0_crew_kinds a_q0_crew_kinds_cells a_q0_now_gas a_q0_now_place a_q0_now_place_cells u_q0_minesRead u_q0_doorsDone u_q0_keptMine u_q0_keptMen u_q0_plan_doors u_q0_plan_shafts u_q0_now_open u_q0_now_moon u_q0_now_out u_q0_now_gone c_q0_plan_galleries c_q0_crew_size c_q0_crew_kinds c_q0_now_place)) (W1 := (w_X10_man cA a_q0 a_q0_page a_q0_plan a_q0_air a_q0_trial a_q0_smoke a_q0_crew a_q0_now a_q0_kept a_q0_dream a_q0_draws a_q0_rescuers a_q0_plan_one a_q0_plan_two a_q0_plan_length a_q0_plan_draught a_q0_crew_kinds a_q0_crew_kinds_cells a_q0_now_gas a_q0_now_place a_q0_now_place_cells u_q0_minesRead u_q0_doorsDone u_q0_keptMine u_q0_keptMen u_q0_plan_doors u_q0_plan_shafts u_q0_now_open u_q0_now_moon u_q0_now_out u_q0_now_gone c_q0_plan_galleries z_6.2.1 z_6.2.2.1 z_6.2.2.2)) (isC := [0, 1, 2, 3, 4, 5, 6, 7]) (isR := [8]) (perm := [1, 2, 3, 4, 5, 6, 7, 8, 0]) (ws' := (w_L_men cA a_q0 a_q1 a_q4 a_q0_page a_q0_plan a_q0_air a_q0_trial a_q0_smoke a_q0_crew a_q0_now a_q0_kept a_q0_dream a_q0_draws a_q0_rescuers a_q0_plan_one a_q0_plan_two a_q0_plan_length a_q0_plan_draught a_q0_crew_kinds a_q0_crew_kinds_cells a_q0_now_gas a_q0_now_place a_q0_now_place_cells u_q0_minesRead u_q0_doorsDone u_q0_keptMine u_q0_keptMen u_q0_plan_doors u_q0_plan_shafts u_q0_now_open u_q0_now_moon u_q0_now_out u_q0_now_gone n_q4 c_q0_plan_galleries z_6.2.1 z_6.2.2.1 z_6.2.2.2 (upd (upd c_q4 (Int32.toNatClampNeg (7 + v6)) z_3) (Int32.toNatClampNeg (13 + v6)) z_5))) X (c_X10_man l D cA a_q0 a_q0_page a_q0_plan a_q0_air a_q0_trial a_q0_smoke a_q0_crew a_q0_now a_q0_kept a_q0_dream a_q0_draws a_q0_rescuers a_q0_plan_one a_q0_plan_two a_q0_plan_length a_q0_plan_draught a_q0_crew_kinds a_q0_crew_kinds_cells a_q0_now_gas a_q0_now_place a_q0_now_place_cells u_q0_minesRead u_q0_doorsDone u_q0_keptMine u_q0_keptMen u_q0_plan_doors u_q0_plan_shafts u_q0_now_open u_q0_now_moon u_q0_now_out u_q0_now_gone c_q0_plan_galleries c_q0_crew_size c_q0_crew_kinds c_q0_now_place ((upd (upd c_q4 (Int32.toNatClampNeg (7 + v6)) z_3) (Int32.toNatClampNeg (13 + v6)) z_5) (7 + v6).toNatClampNeg) ((upd (upd c_q4 (Int32.toNatClampNeg (7 + v6)) z_3) (Int32.toNatClampNeg (13 + v6)) z_5) (13 + v6).toNatClampNeg) _ hz_6) 0 rfl rfl rfl gL_men_X10_man rfl rfl rfl ⟨rfl, hd_X10_man⟩ ⟨Nat.le_of_ble_eq_true rfl, Nat.le_of_ble_eq_true rfl⟩ rfl rfl (Nat.le_of_ble_eq_true rfl) rfl (by decide +kernel) rfl (by decide +kernel) (by decide +kernel) (by decide) rfl (by decide +kernel) dL_men_95 rfl ?_
      refine g_iload X 5 rfl dL_men_98 rfl ?_
      refine g_icmp_eq (tgt := 105) X dL_men_100 (by decide) rfl h (fun c_7 h => ?_) (fun c_7 h => ?_)
      · refine g_aload X 3 rfl dL_men_105 rfl ?_
        refine g_bipush (v := 20) X dL_men_107 (by decide) rfl ?_
        refine g_dup2 X dL_men_109 rfl rfl rfl ?_
        refine g_iald X 8 rfl dL_men_110 rfl h (fun h => ?_)
        refine g_iconst (v := 1) X dL_men_111 (by decide) rfl ?_
        refine g_iadd X dL_men_112 rfl ?_
        refine g_iast (ws' := (w_L_men cA a_q0 a_q1 a_q4 a_q0_page a_q0_plan a_q0_air a_q0_trial a_q0_smoke a_q0_crew a_q0_now a_q0_kept a_q0_dream a_q0_draws a_q0_rescuers a_q0_plan_one a_q0_plan_two a_q0_plan_length a_q0_plan_draught a_q0_crew_kinds a_q0_crew_kinds_cells a_q0_now_gas a_q0_now_place a_q0_now_place_cells u_q0_minesRead u_q0_doorsDone u_q0_keptMine u_q0_keptMen u_q0_plan_doors u_q0_plan_shafts u_q0_now_open u_q0_now_moon u_q0_now_out u_q0_now_gone n_q4 c_q0_plan_galleries z_6.2.1 z_6.2.2.1 z_6.2.2.2 (upd (upd (upd c_q4 (Int32.toNatClampNeg (7 + v6)) z_3) (Int32.toNatClampNeg (13 + v6)) z_5) (Int32.toNatClampNeg 20) (((upd (upd c_q4 (Int32.toNatClampNeg (7 + v6)) z_3) (Int32.toNatClampNeg (13 + v6)) z_5) (Int32.toNatClampNeg 20)) + 1)))) X 8 rfl rfl dL_men_113 rfl h (fun h => ?_)
        obtain ⟨v6_8, ev6_8, h⟩ := nam_s h
        refine g_iinc (v := v6_8) (lv' := [(6, .int v6_8), (0, .ref a_q0), (1, .ref a_q1), (2, .int v2), (4, .ref a_q4), (5, .int v5)]) X 5 rfl (by rw [ev6_8]; rfl) (by decide) rfl dL_men_114 rfl ?_
        refine g_goto (tgt := 22) X dL_men_117 (by decide) ?_
        refine g_lvs [1, 2, 3, 4, 5, 0] rfl ?_
        exact ih _ _ _ _ _ h
      · refine g_iconst (v := 0) X dL_men_103 (by decide) rfl ?_
        cases Option.some.inj h
        exact hret _ _ dL_men_104 (nar_z (Or.inl rfl))
set_option maxHeartbeats 4000000 in
set_option maxRecDepth 100000 in
theorem c_L_men (l : Launch) (D : va_G) (cA : ClassId) (a_q0 a_q1 a_q4 a_q0_page a_q0_plan a_q0_air a_q0_trial a_q0_smoke a_q0_crew a_q0_now a_q0_kept a_q0_dream a_q0_draws a_q0_rescuers a_q0_plan_one a_q0_plan_two a_q0_plan_length a_q0_plan_draught a_q0_crew_kinds a_q0_crew_kinds_cells a_q0_now_gas a_q0_now_place a_q0_now_place_cells : Nat) (u_q0_minesRead : Int32) (u_q0_doorsDone : Int32) (u_q0_keptMine : Int32) (u_q0_keptMen : Int32) (u_q0_plan_doors : Int32) (u_q0_plan_shafts : Int32) (u_q0_now_open : Int32) (u_q0_now_moon : Int32) (u_q0_now_out : Int32) (u_q0_now_gone : Int32) (n_q4 : Nat) (n_q1 : Nat) (c_q1 : A32) (c_q0_plan_galleries : Int32) (c_q0_crew_size : Int32) (c_q0_crew_kinds : A32) (c_q0_now_place : A32) (c_q4 : A32) (v2 : Int32) (v3 : Int32) (z : Int32 × Int32 × A32 × A32 × A32) (h : f_L_men n_q4 n_q1 c_q1 c_q0_plan_galleries c_q0_crew_size c_q0_crew_kinds c_q0_now_place c_q4 v2 v3 = some z) : CtX l yL_men wsL_men rm_L_men D cA a_q1 n_q1 c_q1 [.ref a_q0, .ref a_q1, .int v2, .int v3, .ref a_q4] (w_L_men cA a_q0 a_q1 a_q4 a_q0_page a_q0_plan a_q0_air a_q0_trial a_q0_smoke a_q0_crew a_q0_now a_q0_kept a_q0_dream a_q0_draws a_q0_rescuers a_q0_plan_one a_q0_plan_two a_q0_plan_length a_q0_plan_draught a_q0_crew_kinds a_q0_crew_kinds_cells a_q0_now_gas a_q0_now_place a_q0_now_place_cells u_q0_minesRead u_q0_doorsDone u_q0_keptMine u_q0_keptMen u_q0_plan_doors u_q0_plan_shafts u_q0_now_open u_q0_now_moon u_q0_now_out u_q0_now_gone n_q4 c_q0_plan_galleries c_q0_crew_size c_q0_crew_kinds c_q0_now_place c_q4) z.1 (w_L_men cA a_q0 a_q1 a_q4 a_q0_page a_q0_plan a_q0_air a_q0_trial a_q0_smoke a_q0_crew a_q0_now a_q0_kept a_q0_dream a_q0_draws a_q0_rescuers a_q0_plan_one a_q0_plan_two a_q0_plan_length a_q0_plan_draught a_q0_crew_kinds a_q0_crew_kinds_cells a_q0_now_gas a_q0_now_place a_q0_now_place_cells u_q0_minesRead u_q0_doorsDone u_q0_keptMine u_q0_keptMen u_q0_plan_doors u_q0_plan_shafts u_q0_now_open u_q0_now_moon u_q0_now_out u_q0_now_gone n_q4 c_q0_plan_galleries z.2.1 z.2.2.1 z.2.2.2.1 z.2.2.2.2) := by
  refine ct_X (maxL := 7) (ty := .boolean) (cc := cL_men) (by decide) rfl (Nat.le_of_ble_eq_true rfl) rfl (fun p e s m args below meth c A Q X hX hret => ?_)
  have h : (Option.bind (f_L_cell n_q1 c_q1 v2) fun z_1 => Option.bind (f_L_at z_1 (v3 + 1)) fun z_2 => if inB 20 n_q4 then f_L_men_b22 n_q4 n_q1 c_q1 c_q0_plan_galleries v2 z_2 FU c_q0_crew_size c_q0_crew_kinds c_q0_now_place (upd c_q4 (Int32.toNatClampNeg 20) 0) 0 else none : Option (Int32 × Int32 × A32 × A32 × A32)) = some z := h
  refine g_aload_n X 1 rfl rfl dL_men_0 rfl ?_
  refine g_iload_n X 2 rfl rfl dL_men_1 rfl ?_
  obtain ⟨z_1, hz_1, h⟩ := bnd_s h
  refine g_callSIX (rm := rm_L_cell) (As := [.ref a_q1, .int v2]) (r := z_1) (W0 := []) (W1 := []) (isC := []) (isR := [0, 1, 2, 3, 4, 5, 6, 7, 8]) (perm := [0, 1, 2, 3, 4, 5, 6, 7, 8]) (ws' := (w_L_men cA a_q0 a_q1 a_q4 a_q0_page a_q0_plan a_q0_air a_q0_trial a_q0_smoke a_q0_crew a_q0_now a_q0_kept a_q0_dream a_q0_draws a_q0_rescuers a_q0_plan_one a_q0_plan_two a_q0_plan_length a_q0_plan_draught a_q0_crew_kinds a_q0_crew_kinds_cells a_q0_now_gas a_q0_now_place a_q0_now_place_cells u_q0_minesRead u_q0_doorsDone u_q0_keptMine u_q0_keptMen u_q0_plan_doors u_q0_plan_shafts u_q0_now_open u_q0_now_moon u_q0_now_out u_q0_now_gone n_q4 c_q0_plan_galleries c_q0_crew_size c_q0_crew_kinds c_q0_now_place c_q4)) X (c_L_cell l D cA a_q1 n_q1 c_q1 v2 _ hz_1) hX gL_men_L_cell rfl rfl rfl hd_L_cell ⟨Nat.le_of_ble_eq_true rfl, Nat.le_of_ble_eq_true rfl⟩ rfl rfl (Nat.le_of_ble_eq_true rfl) rfl (by decide +kernel) rfl (by decide +kernel) (by decide +kernel) (by decide) rfl (by decide +kernel) dL_men_2 rfl ?_
  refine g_iload_n X 3 rfl rfl dL_men_5 rfl ?_
  refine g_iconst (v := 1) X dL_men_6 (by decide) rfl ?_
  refine g_iadd X dL_men_7 rfl ?_
  obtain ⟨z_2, hz_2, h⟩ := bnd_s h
  refine g_callSI (rm := rm_L_at) (As := [.int z_1, .int (v3 + 1)]) (r := z_2) (W0 := []) (W1 := []) (isC := []) (isR := [0, 1, 2, 3, 4, 5, 6, 7, 8]) (perm := [0, 1, 2, 3, 4, 5, 6, 7, 8]) (ws' := (w_L_men cA a_q0 a_q1 a_q4 a_q0_page a_q0_plan a_q0_air a_q0_trial a_q0_smoke a_q0_crew a_q0_now a_q0_kept a_q0_dream a_q0_draws a_q0_rescuers a_q0_plan_one a_q0_plan_two a_q0_plan_length a_q0_plan_draught a_q0_crew_kinds a_q0_crew_kinds_cells a_q0_now_gas a_q0_now_place a_q0_now_place_cells u_q0_minesRead u_q0_doorsDone u_q0_keptMine u_q0_keptMen u_q0_plan_doors u_q0_plan_shafts u_q0_now_open u_q0_now_moon u_q0_now_out u_q0_now_gone n_q4 c_q0_plan_galleries c_q0_crew_size c_q0_crew_kinds c_q0_now_place c_q4)) X (c_L_at l D cA z_1 (v3 + 1) _ hz_2) gL_men_L_at rfl rfl rfl hd_L_at ⟨Nat.le_of_ble_eq_true rfl, Nat.le_of_ble_eq_true rfl⟩ rfl rfl (Nat.le_of_ble_eq_true rfl) rfl (by decide +kernel) rfl (by decide +kernel) (by decide +kernel) (by decide) rfl (by decide +kernel) dL_men_8 rfl ?_
  refine g_istore (lv' := [(5, .int z_2), (0, .ref a_q0), (1, .ref a_q1), (2, .int v2), (3, .int v3), (4, .ref a_q4)]) X (by decide) rfl dL_men_11 rfl ?_
  refine g_aload X 5 rfl dL_men_13 rfl ?_
  refine g_bipush (v := 20) X dL_men_15 (by decide) rfl ?_
  refine g_iconst (v := 0) X dL_men_17 (by decide) rfl ?_
  refine g_iast (ws' := (w_L_men cA a_q0 a_q1 a_q4 a_q0_page a_q0_plan a_q0_air a_q0_trial a_q0_smoke a_q0_crew a_q0_now a_q0_kept a_q0_dream a_q0_draws a_q0_rescuers a_q0_plan_one a_q0_plan_two a_q0_plan_length a_q0_plan_draught a_q0_crew_kinds a_q0_crew_kinds_cells a_q0_now_gas a_q0_now_place a_q0_now_place_cells u_q0_minesRead u_q0_doorsDone u_q0_keptMine u_q0_keptMen u_q0_plan_doors u_q0_plan_shafts u_q0_now_open u_q0_now_moon u_q0_now_out u_q0_now_gone n_q4 c_q0_plan_galleries c_q0_crew_size c_q0_crew_kinds c_q0_now_place (upd c_q4 (Int32.toNatClampNeg 20) 0))) X 8 rfl rfl dL_men_18 rfl h (fun h => ?_)
  refine g_iconst (v := 0) X dL_men_19 (by decide) rfl ?_
  refine g_istore (lv' := [(6, .int 0), (5, .int z_2), (0, .ref a_q0), (1, .ref a_q1), (2, .int v2), (3, .int v3), (4, .ref a_q4)]) X (by decide) rfl dL_men_20 rfl ?_
  refine g_lvs [2, 3, 4, 6, 1, 0] rfl ?_
  exact t_L_men_b22 X hX hret _ _ _ _ _ _ h
abbrev rm_L_shaft : Room := { frames := 0, cells := 0, slots := 0, locals := 0 }
theorem hd_L_shaft : yL_shaft.cls ≠ "java/lang/invoke/MethodHandle" ∧ yL_shaft.cls ≠ "java/lang/invoke/VarHandle" ∧ (parseMethodDescriptor yL_shaft.desc).map (fun d => d.parameters.length) = some 2 := by decide +kernel
abbrev w_L_shaft (cA : ClassId) (a_q0 : Nat) (n_q0 : Nat) (c_q0 : A32) : va_W := [(a_q0, .inl (cA, n_q0, .inl c_q0))]
set_option maxHeartbeats 4000000 in
set_option maxRecDepth 100000 in
theorem t_L_shaft_b30 {l : Launch} {D : va_G} {cA : ClassId} {p : Program} {e : Env} {s : State} {m : MethodId} {args : Array Value} {below : List Frame} {meth : Method} {c : Code} {A : Nat → Prop} {Q : State → Prop} {z : Int32} {a_q0 : Nat}  {c_q0 : A32} {n_q0 : Nat} {t0 : Int32} {t1 : Int32}  (X : GX p s m args c cL_shaft RL wsL_shaft D cA A 2) (hret : RtI p l e rm_L_shaft s m args below meth c cL_shaft D A 2 0 0 Q .int z (w_L_shaft cA a_q0 n_q0 c_q0))  (h : f_L_shaft_b30 n_q0 t0 t1 = some z) : G p l e rm_L_shaft s m args below meth c D A 2 0 0 Q 30 [] [.int t1, .int t0] (w_L_shaft cA a_q0 n_q0 c_q0) := by
  have h : (some (t0 * t1) : Option (Int32)) = some z := h
  refine g_imul X dL_shaft_30 rfl ?_
  cases Option.some.inj h
  exact hret _ _ dL_shaft_31 rfl
set_option maxHeartbeats 4000000 in
set_option maxRecDepth 100000 in
theorem c_L_shaft (l : Launch) (D : va_G) (cA : ClassId) (a_q0 : Nat)  (n_q0 : Nat) (c_q0 : A32) (v1 : Int32) (z : Int32) (h : f_L_shaft n_q0 c_q0 v1 = some z) : CtI l yL_shaft wsL_shaft rm_L_shaft D cA [.ref a_q0, .int v1] (w_L_shaft cA a_q0 n_q0 c_q0) z (w_L_shaft cA a_q0 n_q0 c_q0) := by
  refine ct_I (maxL := 2) (ty := .int) (cc := cL_shaft) (by decide) rfl (Nat.le_of_ble_eq_true rfl) rfl (fun p e s m args below meth c A Q X hret => ?_)
  have h : (if inB 51 n_q0 then if (c_q0 (Int32.toNatClampNeg 51)) = 1 then if inB (52 + v1) n_q0 then f_L_shaft_b30 n_q0 12 (10 - (c_q0 (52 + v1).toNatClampNeg)) else none else if inB (52 + v1) n_q0 then f_L_shaft_b30 n_q0 12 ((c_q0 (52 + v1).toNatClampNeg) - 1) else none else none : Option (Int32)) = some z := h
  refine g_bipush (v := 12) X dL_shaft_0 (by decide) rfl ?_
  refine g_aload_n X 0 rfl rfl dL_shaft_2 rfl ?_
  refine g_bipush (v := 51) X dL_shaft_3 (by decide) rfl ?_
  refine g_iald X 0 rfl dL_shaft_5 rfl h (fun h => ?_)
  refine g_iconst (v := 1) X dL_shaft_6 (by decide) rfl ?_
  refine g_icmp_ne (tgt := 22) X dL_shaft_7 (by decide) rfl h (fun c_1 h => ?_) (fun c_1 h => ?_)
  · refine g_aload_n X 0 rfl rfl dL_shaft_22 rfl ?_
    refine g_bipush (v := 52) X dL_shaft_23 (by decide) rfl ?_
    refine g_iload_n X 1 rfl rfl dL_shaft_25 rfl ?_
    refine g_iadd X dL_shaft_26 rfl ?_
    refine g_iald X 0 rfl dL_shaft_27 rfl h (fun h => ?_)
    refine g_iconst (v := 1) X dL_shaft_28 (by decide) rfl ?_
    refine g_isub X dL_shaft_29 rfl ?_
    refine g_lvs [] rfl ?_
    exact t_L_shaft_b30 X hret h
  · refine g_bipush (v := 10) X dL_shaft_10 (by decide) rfl ?_
    refine g_aload_n X 0 rfl rfl dL_shaft_12 rfl ?_
    refine g_bipush (v := 52) X dL_shaft_13 (by decide) rfl ?_
    refine g_iload_n X 1 rfl rfl dL_shaft_15 rfl ?_
    refine g_iadd X dL_shaft_16 rfl ?_
    refine g_iald X 0 rfl dL_shaft_17 rfl h (fun h => ?_)
    refine g_isub X dL_shaft_18 rfl ?_
    refine g_goto (tgt := 30) X dL_shaft_19 (by decide) ?_
    refine g_lvs [] rfl ?_
    exact t_L_shaft_b30 X hret h
