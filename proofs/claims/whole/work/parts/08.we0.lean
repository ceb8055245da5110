abbrev rm_X11_in : Room := { frames := 0, cells := 0, slots := 0, locals := 0 }
abbrev w_X11_in (cA : ClassId)  : va_W := []
theorem hd_X11_in : yX11_in.cls ≠ "java/lang/invoke/MethodHandle" ∧ yX11_in.cls ≠ "java/lang/invoke/VarHandle" ∧ (parseMethodDescriptor yX11_in.desc).map (fun d => d.parameters.length) = some 3 := by decide +kernel
set_option maxHeartbeats 4000000 in
set_option maxRecDepth 100000 in
theorem c_X11_in (l : Launch) (D : va_G) (cA : ClassId)  (v0 : Int64) (v2 : Int64) (v4 : Int64) (z : Int32) (h : f_X11_in v0 v2 v4 = some z) : CtI l yX11_in wsX11_in rm_X11_in D cA [.long v0, .long v2, .long v4] (w_X11_in cA ) z (w_X11_in cA ) := by
  refine ct_I (maxL := 6) (ty := .boolean) (cc := cX11_in) (by decide) rfl (Nat.le_of_ble_eq_true rfl) rfl (fun p e s m args below meth c A Q X hret => ?_)
  have h : (if (lg_cmp v0 v2) < 0 then some 0 else if 0 < (lg_cmp v0 v4) then some 0 else some 1 : Option (Int32)) = some z := h
  refine g_lload_n X 0 rfl rfl dX11_in_0 rfl ?_
  refine g_lload_n X 1 rfl rfl dX11_in_1 rfl ?_
  refine g_lcmp X dX11_in_2 rfl ?_
  refine g_if_lt (tgt := 17) X dX11_in_3 (by decide) rfl h (fun c_1 h => ?_) (fun c_1 h => ?_)
  · refine g_iconst (v := 0) X dX11_in_17 (by decide) rfl ?_
    cases Option.some.inj h
    exact hret _ _ dX11_in_18 (nar_z (Or.inl rfl))
  · refine g_lload_n X 0 rfl rfl dX11_in_6 rfl ?_
    refine g_lload X 2 rfl dX11_in_7 rfl ?_
    refine g_lcmp X dX11_in_9 rfl ?_
    refine g_if_gt (tgt := 17) X dX11_in_10 (by decide) rfl h (fun c_2 h => ?_) (fun c_2 h => ?_)
    · refine g_iconst (v := 0) X dX11_in_17 (by decide) rfl ?_
      cases Option.some.inj h
      exact hret _ _ dX11_in_18 (nar_z (Or.inl rfl))
    · refine g_iconst (v := 1) X dX11_in_13 (by decide) rfl ?_
      refine g_goto (tgt := 18) X dX11_in_14 (by decide) ?_
      cases Option.some.inj h
      exact hret _ _ dX11_in_18 (nar_z (Or.inr rfl))
abbrev rm_X11_letters : Room := { frames := 0, cells := 0, slots := 0, locals := 0 }
abbrev w_X11_letters (cA : ClassId) (a_me a_page a_readRows a_readDraughts a_rows a_draughts a_gas a_heights a_steps a_menRows a_smoke a_lengths a_order a_bestOrder a_savedMen a_savedGas a_keptGas a_keptMenRows : Nat) (u_readMany : Int32) (u_readShafts : Int32) (u_readKnot : Int32) (u_state : Int32) (u_galleries : Int32) (u_minesRead : Int32) (u_moon : Int32) (u_time : Int32) (u_shut : Int32) (u_men : Int32) (u_done : Int32) (u_seedNow : Int32) (u_keptMine : Int32) (u_keptMen : Int32) (u_keptShut : Int32) (u_keptMoon : Int32) (u_keptTime : Int32) (u_hash : Int64) (c_pageMany : Int32) (c_page : A32) : va_W := [(a_me, .inr (11, [.ref a_page, .int c_pageMany, .ref a_readRows, .ref a_readDraughts, .int u_readMany, .int u_readShafts, .int u_readKnot, .int u_state, .int u_galleries, .int u_minesRead, .int u_moon, .int u_time, .ref a_rows, .ref a_draughts, .int u_shut, .ref a_gas, .ref a_heights, .ref a_steps, .int u_men, .ref a_menRows, .ref a_smoke, .int u_done, .ref a_lengths, .ref a_order, .ref a_bestOrder, .int u_seedNow, .ref a_savedMen, .ref a_savedGas, .int u_keptMine, .int u_keptMen, .int u_keptShut, .int u_keptMoon, .int u_keptTime, .ref a_keptGas, .ref a_keptMenRows, .long u_hash])), (a_page, .inl (cA, 66, .inl c_page))]
theorem hd_X11_letters : yX11_letters.cls ≠ "java/lang/invoke/MethodHandle" ∧ yX11_letters.cls ≠ "java/lang/invoke/VarHandle" ∧ (parseMethodDescriptor yX11_letters.desc).map (fun d => d.parameters.length) = some 1 := by decide +kernel
theorem iw_X11_letters_X11 : ∀ w ∈ wsX110, w ∈ wsX11_letters := fun w h => List.mem_cons_of_mem _ (List.mem_append_right _ h)
theorem fl_X11_letters_X11_1 : Cond.fieldLink RX11 67 RX11 (TX11 1).2.1 (TX11 1).2.2.1 ∈ wsX11_letters := List.mem_of_getElem? (i := 2) rfl
theorem fl_X11_letters_X11_0 : Cond.fieldLink RX11 7 RX11 (TX11 0).2.1 (TX11 0).2.2.1 ∈ wsX11_letters := List.mem_of_getElem? (i := 3) rfl
set_option maxHeartbeats 4000000 in
set_option maxRecDepth 100000 in
theorem t_X11_letters_b75 {l : Launch} {D : va_G} {cA : ClassId} {p : Program} {e : Env} {s : State} {m : MethodId} {args : Array Value} {below : List Frame} {meth : Method} {c : Code} {A : Nat → Prop} {Q : State → Prop} {z : Int32 × Int32 × A32} {a_me a_page a_readRows a_readDraughts a_rows a_draughts a_gas a_heights a_steps a_menRows a_smoke a_lengths a_order a_bestOrder a_savedMen a_savedGas a_keptGas a_keptMenRows : Nat} {u_readMany : Int32} {u_readShafts : Int32} {u_readKnot : Int32} {u_state : Int32} {u_galleries : Int32} {u_minesRead : Int32} {u_moon : Int32} {u_time : Int32} {u_shut : Int32} {u_men : Int32} {u_done : Int32} {u_seedNow : Int32} {u_keptMine : Int32} {u_keptMen : Int32} {u_keptShut : Int32} {u_keptMoon : Int32} {u_keptTime : Int32} {u_hash : Int64}  {c_pageMany : Int32} {c_page : A32} {t0 : Int32} {t1 : Int32} {v1 : Int64} {v4 : Int32} {v5 : Int64} {v7 : Int32} {k11 : Int32 → Int32 → Int64 → Int32 → Option (Int32 × Int32 × A32)} (X : GX p s m args c cX11_letters RX11 wsX11_letters D cA A 9) (hret : RtI p l e rm_X11_letters s m args below meth c cX11_letters D A 9 0 0 Q .int z.1 (w_X11_letters cA a_me a_page a_readRows a_readDraughts a_rows a_draughts a_gas a_heights a_steps a_menRows a_smoke a_lengths a_order a_bestOrder a_savedMen a_savedGas a_keptGas a_keptMenRows u_readMany u_readShafts u_readKnot u_state u_galleries u_minesRead u_moon u_time u_shut u_men u_done u_seedNow u_keptMine u_keptMen u_keptShut u_keptMoon u_keptTime u_hash z.2.1 z.2.2)) (hk11 : ∀ (v3 : Int32) (v4 : Int32) (v5 : Int64) (v7 : Int32), k11 v3 v4 v5 v7 = some z → G p l e rm_X11_letters s m args below meth c D A 9 0 0 Q 11 [(0, .ref a_me), (1, .long v1), (3, .int v3), (4, .int v4), (5, .long v5), (7, .int v7)] [] (w_X11_letters cA a_me a_page a_readRows a_readDraughts a_rows a_draughts a_gas a_heights a_steps a_menRows a_smoke a_lengths a_order a_bestOrder a_savedMen a_savedGas a_keptGas a_keptMenRows u_readMany u_readShafts u_readKnot u_state u_galleries u_minesRead u_moon u_time u_shut u_men u_done u_seedNow u_keptMine u_keptMen u_keptShut u_keptMoon u_keptTime u_hash c_pageMany c_page)) (h : f_X11_letters_b75 k11 c_pageMany c_page t0 t1 v1 v4 v5 v7 = some z) : G p l e rm_X11_letters s m args below meth c D A 9 0 0 Q 75 [(0, .ref a_me), (1, .long v1), (4, .int v4), (5, .long v5), (7, .int v7)] [.int t1, .int t0] (w_X11_letters cA a_me a_page a_readRows a_readDraughts a_rows a_draughts a_gas a_heights a_steps a_menRows a_smoke a_lengths a_order a_bestOrder a_savedMen a_savedGas a_keptGas a_keptMenRows u_readMany u_readShafts u_readKnot u_state u_galleries u_minesRead u_moon u_time u_shut u_men u_done u_seedNow u_keptMine u_keptMen u_keptShut u_keptMoon u_keptTime u_hash c_pageMany c_page) := by
  have h : (nam (t0 + t1) fun v3_1 => nam (v7 + 1) fun v7_2 => k11 v3_1 v4 v5 v7_2 : Option (Int32 × Int32 × A32)) = some z := h
  refine g_iadd X dX11_letters_75 rfl ?_
  refine g_nami h (fun v3_1 h => ?_)
  refine g_istore_n (lv' := [(3, .int v3_1), (0, .ref a_me), (1, .long v1), (4, .int v4), (5, .long v5), (7, .int v7)]) X rfl (by decide) rfl dX11_letters_76 rfl ?_
  obtain ⟨v7_2, ev7_2, h⟩ := nam_s h
  refine g_iinc (v := v7_2) (lv' := [(7, .int v7_2), (3, .int v3_1), (0, .ref a_me), (1, .long v1), (4, .int v4), (5, .long v5)]) X 5 rfl (by rw [ev7_2]; rfl) (by decide) rfl dX11_letters_77 rfl ?_
  refine g_goto (tgt := 11) X dX11_letters_80 (by decide) ?_
  refine g_lvs [2, 3, 1, 4, 5, 0] rfl ?_
  exact hk11 _ _ _ _ h
set_option maxHeartbeats 4000000 in
set_option maxRecDepth 100000 in
theorem t_X11_letters_b62 {l : Launch} {D : va_G} {cA : ClassId} {p : Program} {e : Env} {s : State} {m : MethodId} {args : Array Value} {below : List Frame} {meth : Method} {c : Code} {A : Nat → Prop} {Q : State → Prop} {z : Int32 × Int32 × A32} {a_me a_page a_readRows a_readDraughts a_rows a_draughts a_gas a_heights a_steps a_menRows a_smoke a_lengths a_order a_bestOrder a_savedMen a_savedGas a_keptGas a_keptMenRows : Nat} {u_readMany : Int32} {u_readShafts : Int32} {u_readKnot : Int32} {u_state : Int32} {u_galleries : Int32} {u_minesRead : Int32} {u_moon : Int32} {u_time : Int32} {u_shut : Int32} {u_men : Int32} {u_done : Int32} {u_seedNow : Int32} {u_keptMine : Int32} {u_keptMen : Int32} {u_keptShut : Int32} {u_keptMoon : Int32} {u_keptTime : Int32} {u_hash : Int64}  {c_pageMany : Int32} {c_page : A32} {t0 : Int32} {v1 : Int64} {v3 : Int32} {v5 : Int64} {v7 : Int32} {v8 : Int32} {k11 : Int32 → Int32 → Int64 → Int32 → Option (Int32 × Int32 × A32)} (X : GX p s m args c cX11_letters RX11 wsX11_letters D cA A 9) (hret : RtI p l e rm_X11_letters s m args below meth c cX11_letters D A 9 0 0 Q .int z.1 (w_X11_letters cA a_me a_page a_readRows a_readDraughts a_rows a_draughts a_gas a_heights a_steps a_menRows a_smoke a_lengths a_order a_bestOrder a_savedMen a_savedGas a_keptGas a_keptMenRows u_readMany u_readShafts u_readKnot u_state u_galleries u_minesRead u_moon u_time u_shut u_men u_done u_seedNow u_keptMine u_keptMen u_keptShut u_keptMoon u_keptTime u_hash z.2.1 z.2.2)) (hk11 : ∀ (v3 : Int32) (v4 : Int32) (v5 : Int64) (v7 : Int32), k11 v3 v4 v5 v7 = some z → G p l e rm_X11_letters s m args below meth c D A 9 0 0 Q 11 [(0, .ref a_me), (1, .long v1), (3, .int v3), (4, .int v4), (5, .long v5), (7, .int v7)] [] (w_X11_letters cA a_me a_page a_readRows a_readDraughts a_rows a_draughts a_gas a_heights a_steps a_menRows a_smoke a_lengths a_order a_bestOrder a_savedMen a_savedGas a_keptGas a_keptMenRows u_readMany u_readShafts u_readKnot u_state u_galleries u_minesRead u_moon u_time u_shut u_men u_done u_seedNow u_keptMine u_keptMen u_keptShut u_keptMoon u_keptTime u_hash c_pageMany c_page)) (h : f_X11_letters_b62 k11 c_pageMany c_page t0 v1 v3 v5 v7 v8 = some z) : G p l e rm_X11_letters s m args below meth c D A 9 0 0 Q 62 [(0, .ref a_me), (1, .long v1), (3, .int v3), (5, .long v5), (7, .int v7), (8, .int v8)] [.int t0] (w_X11_letters cA a_me a_page a_readRows a_readDraughts a_rows a_draughts a_gas a_heights a_steps a_menRows a_smoke a_lengths a_order a_bestOrder a_savedMen a_savedGas a_keptGas a_keptMenRows u_readMany u_readShafts u_readKnot u_state u_galleries u_minesRead u_moon u_time u_shut u_men u_done u_seedNow u_keptMine u_keptMen u_keptShut u_keptMoon u_keptTime u_hash c_pageMany c_page) := by
  have h : (if v8 ≤ 0 then f_X11_letters_b75 k11 c_pageMany c_page v3 0 v1 t0 v5 v7 else f_X11_letters_b75 k11 c_pageMany c_page v3 1 v1 t0 v5 v7 : Option (Int32 × Int32 × A32)) = some z := h
  refine g_istore (lv' := [(4, .int t0), (0, .ref a_me), (1, .long v1), (3, .int v3), (5, .long v5), (7, .int v7), (8, .int v8)]) X (by decide) rfl dX11_letters_62 rfl ?_
  refine g_iload_n X 3 rfl rfl dX11_letters_64 rfl ?_
  refine g_iload X 6 rfl dX11_letters_65 rfl ?_
  refine g_if_le (tgt := 74) X dX11_letters_67 (by decide) rfl h (fun c_1 h => ?_) (fun c_1 h => ?_)
  · refine g_iconst (v := 0) X dX11_letters_74 (by decide) rfl ?_
    refine g_lvs [1, 2, 0, 4, 5] rfl ?_
    exact t_X11_letters_b75 X hret hk11 h
  · refine g_iconst (v := 1) X dX11_letters_70 (by decide) rfl ?_
    refine g_goto (tgt := 75) X dX11_letters_71 (by decide) ?_
    refine g_lvs [1, 2, 0, 4, 5] rfl ?_
    exact t_X11_letters_b75 X hret hk11 h
set_option maxHeartbeats 4000000 in
set_option maxRecDepth 100000 in
theorem t_X11_letters_b57 {l : Launch} {D : va_G} {cA : ClassId} {p : Program} {e : Env} {s : State} {m : MethodId} {args : Array Value} {below : List Frame} {meth : Method} {c : Code} {A : Nat → Prop} {Q : State → Prop} {z : Int32 × Int32 × A32} {a_me a_page a_readRows a_readDraughts a_rows a_draughts a_gas a_heights a_steps a_menRows a_smoke a_lengths a_order a_bestOrder a_savedMen a_savedGas a_keptGas a_keptMenRows : Nat} {u_readMany : Int32} {u_readShafts : Int32} {u_readKnot : Int32} {u_state : Int32} {u_galleries : Int32} {u_minesRead : Int32} {u_moon : Int32} {u_time : Int32} {u_shut : Int32} {u_men : Int32} {u_done : Int32} {u_seedNow : Int32} {u_keptMine : Int32} {u_keptMen : Int32} {u_keptShut : Int32} {u_keptMoon : Int32} {u_keptTime : Int32} {u_hash : Int64}  {c_pageMany : Int32} {c_page : A32} {v1 : Int64} {v3 : Int32} {v5 : Int64} {v7 : Int32} {v8 : Int32} {k11 : Int32 → Int32 → Int64 → Int32 → Option (Int32 × Int32 × A32)} (X : GX p s m args c cX11_letters RX11 wsX11_letters D cA A 9) (hret : RtI p l e rm_X11_letters s m args below meth c cX11_letters D A 9 0 0 Q .int z.1 (w_X11_letters cA a_me a_page a_readRows a_readDraughts a_rows a_draughts a_gas a_heights a_steps a_menRows a_smoke a_lengths a_order a_bestOrder a_savedMen a_savedGas a_keptGas a_keptMenRows u_readMany u_readShafts u_readKnot u_state u_galleries u_minesRead u_moon u_time u_shut u_men u_done u_seedNow u_keptMine u_keptMen u_keptShut u_keptMoon u_keptTime u_hash z.2.1 z.2.2)) (hk11 : ∀ (v3 : Int32) (v4 : Int32) (v5 : Int64) (v7 : Int32), k11 v3 v4 v5 v7 = some z → G p l e rm_X11_letters s m args below meth c D A 9 0 0 Q 11 [(0, .ref a_me), (1, .long v1), (3, .int v3), (4, .int v4), (5, .long v5), (7, .int v7)] [] (w_X11_letters cA a_me a_page a_readRows a_readDraughts a_rows a_draughts a_gas a_heights a_steps a_menRows a_smoke a_lengths a_order a_bestOrder a_savedMen a_savedGas a_keptGas a_keptMenRows u_readMany u_readShafts u_readKnot u_state u_galleries u_minesRead u_moon u_time u_shut u_men u_done u_seedNow u_keptMine u_keptMen u_keptShut u_keptMoon u_keptTime u_hash c_pageMany c_page)) (h : f_X11_letters_b57 k11 c_pageMany c_page v1 v3 v5 v7 v8 = some z) : G p l e rm_X11_letters s m args below meth c D A 9 0 0 Q 57 [(0, .ref a_me), (1, .long v1), (3, .int v3), (5, .long v5), (7, .int v7), (8, .int v8)] [] (w_X11_letters cA a_me a_page a_readRows a_readDraughts a_rows a_draughts a_gas a_heights a_steps a_menRows a_smoke a_lengths a_order a_bestOrder a_savedMen a_savedGas a_keptGas a_keptMenRows u_readMany u_readShafts u_readKnot u_state u_galleries u_minesRead u_moon u_time u_shut u_men u_done u_seedNow u_keptMine u_keptMen u_keptShut u_keptMoon u_keptTime u_hash c_pageMany c_page) := by
  have h : (f_X11_letters_b62 k11 c_pageMany c_page 1 v1 v3 v5 v7 v8 : Option (Int32 × Int32 × A32)) = some z := h
  refine g_iconst (v := 1) X dX11_letters_57 (by decide) rfl ?_
  refine g_goto (tgt := 62) X dX11_letters_58 (by decide) ?_
  exact t_X11_letters_b62 X hret hk11 h
set_option maxHeartbeats 4000000 in
set_option maxRecDepth 100000 in
theorem t_X11_letters_b61 {l : Launch} {D : va_G} {cA : ClassId} {p : Program} {e : Env} {s : State} {m : MethodId} {args : Array Value} {below : List Frame} {meth : Method} {c : Code} {A : Nat → Prop} {Q : State → Prop} {z : Int32 × Int32 × A32} {a_me a_page a_readRows a_readDraughts a_rows a_draughts a_gas a_heights a_steps a_menRows a_smoke a_lengths a_order a_bestOrder a_savedMen a_savedGas a_keptGas a_keptMenRows : Nat} {u_readMany : Int32} {u_readShafts : Int32} {u_readKnot : Int32} {u_state : Int32} {u_galleries : Int32} {u_minesRead : Int32} {u_moon : Int32} {u_time : Int32} {u_shut : Int32} {u_men : Int32} {u_done : Int32} {u_seedNow : Int32} {u_keptMine : Int32} {u_keptMen : Int32} {u_keptShut : Int32} {u_keptMoon : Int32} {u_keptTime : Int32} {u_hash : Int64}  {c_pageMany : Int32} {c_page : A32} {v1 : Int64} {v3 : Int32} {v5 : Int64} {v7 : Int32} {v8 : Int32} {k11 : Int32 → Int32 → Int64 → Int32 → Option (Int32 × Int32 × A32)} (X : GX p s m args c cX11_letters RX11 wsX11_letters D cA A 9) (hret : RtI p l e rm_X11_letters s m args below meth c cX11_letters D A 9 0 0 Q .int z.1 (w_X11_letters cA a_me a_page a_readRows a_readDraughts a_rows a_draughts a_gas a_heights a_steps a_menRows a_smoke a_lengths a_order a_bestOrder a_savedMen a_savedGas a_keptGas a_keptMenRows u_readMany u_readShafts u_readKnot u_state u_galleries u_minesRead u_moon u_time u_shut u_men u_done u_seedNow u_keptMine u_keptMen u_keptShut u_keptMoon u_keptTime u_hash z.2.1 z.2.2)) (hk11 : ∀ (v3 : Int32) (v4 : Int32) (v5 : Int64) (v7 : Int32), k11 v3 v4 v5 v7 = some z → G p l e rm_X11_letters s m args below meth c D A 9 0 0 Q 11 [(0, .ref a_me), (1, .long v1), (3, .int v3), (4, .int v4), (5, .long v5), (7, .int v7)] [] (w_X11_letters cA a_me a_page a_readRows a_readDraughts a_rows a_draughts a_gas a_heights a_steps a_menRows a_smoke a_lengths a_order a_bestOrder a_savedMen a_savedGas a_keptGas a_keptMenRows u_readMany u_readShafts u_readKnot u_state u_galleries u_minesRead u_moon u_time u_shut u_men u_done u_seedNow u_keptMine u_keptMen u_keptShut u_keptMoon u_keptTime u_hash c_pageMany c_page)) (h : f_X11_letters_b61 k11 c_pageMany c_page v1 v3 v5 v7 v8 = some z) : G p l e rm_X11_letters s m args below meth c D A 9 0 0 Q 61 [(0, .ref a_me), (1, .long v1), (3, .int v3), (5, .long v5), (7, .int v7), (8, .int v8)] [] (w_X11_letters cA a_me a_page a_readRows a_readDraughts a_rows a_draughts a_gas a_heights a_steps a_menRows a_smoke a_lengths a_order a_bestOrder a_savedMen a_savedGas a_keptGas a_keptMenRows u_readMany u_readShafts u_readKnot u_state u_galleries u_minesRead u_moon u_time u_shut u_men u_done u_seedNow u_keptMine u_keptMen u_keptShut u_keptMoon u_keptTime u_hash c_pageMany c_page) := by
  have h : (f_X11_letters_b62 k11 c_pageMany c_page 0 v1 v3 v5 v7 v8 : Option (Int32 × Int32 × A32)) = some z := h
  refine g_iconst (v := 0) X dX11_letters_61 (by decide) rfl ?_
  exact t_X11_letters_b62 X hret hk11 h
set_option maxHeartbeats 4000000 in
set_option maxRecDepth 100000 in
theorem t_X11_letters_b108 {l : Launch} {D : va_G} {cA : ClassId} {p : Program} {e : Env} {s : State} {m : MethodId} {args : Array Value} {below : List Frame} {meth : Method} {c : Code} {A : Nat → Prop} {Q : State → Prop} {z : Int32 × Int32 × A32} {a_me a_page a_readRows a_readDraughts a_rows a_draughts a_gas a_heights a_steps a_menRows a_smoke a_lengths a_order a_bestOrder a_savedMen a_savedGas a_keptGas a_keptMenRows : Nat} {u_readMany : Int32} {u_readShafts : Int32} {u_readKnot : Int32} {u_state : Int32} {u_galleries : Int32} {u_minesRead : Int32} {u_moon : Int32} {u_time : Int32} {u_shut : Int32} {u_men : Int32} {u_done : Int32} {u_seedNow : Int32} {u_keptMine : Int32} {u_keptMen : Int32} {u_keptShut : Int32} {u_keptMoon : Int32} {u_keptTime : Int32} {u_hash : Int64}  {v1 : Int64} {v3 : Int32}  (X : GX p s m args c cX11_letters RX11 wsX11_letters D cA A 9) (hret : RtI p l e rm_X11_letters s m args below meth c cX11_letters D A 9 0 0 Q .int z.1 (w_X11_letters cA a_me a_page a_readRows a_readDraughts a_rows a_draughts a_gas a_heights a_steps a_menRows a_smoke a_lengths a_order a_bestOrder a_savedMen a_savedGas a_keptGas a_keptMenRows u_readMany u_readShafts u_readKnot u_state u_galleries u_minesRead u_moon u_time u_shut u_men u_done u_seedNow u_keptMine u_keptMen u_keptShut u_keptMoon u_keptTime u_hash z.2.1 z.2.2))  : ∀ (fu : Nat) (c_pageMany : Int32) (c_page : A32) (v7 : Int32), f_X11_letters_b108 v1 v3 fu c_pageMany c_page v7 = some z → G p l e rm_X11_letters s m args below meth c D A 9 0 0 Q 108 [(0, .ref a_me), (1, .long v1), (3, .int v3), (7, .int v7)] [] (w_X11_letters cA a_me a_page a_readRows a_readDraughts a_rows a_draughts a_gas a_heights a_steps a_menRows a_smoke a_lengths a_order a_bestOrder a_savedMen a_savedGas a_keptGas a_keptMenRows u_readMany u_readShafts u_readKnot u_state u_galleries u_minesRead u_moon u_time u_shut u_men u_done u_seedNow u_keptMine u_keptMen u_keptShut u_keptMoon u_keptTime u_hash c_pageMany c_page) := by
  intro fu
  induction fu with
  | zero => intro c_pageMany c_page v7 h; exact absurd (show (none : Option (Int32 × Int32 × A32)) = some z from h) (by simp)
  | succ fu ih =>
    intro c_pageMany c_page v7 h
    have h : (if v3 ≤ v7 then some (c_pageMany, c_pageMany, c_page) else if inB c_pageMany 66 then nam (c_pageMany + 1) fun w_2 => nam (v7 + 1) fun v7_3 => (f_X11_letters_b108 v1 v3 fu) w_2 (upd c_page (Int32.toNatClampNeg c_pageMany) (Int64.toInt32 ((UInt64.toInt64 (Int64.toUInt64 v1 >>> (Int64.toUInt64 (Int32.toInt64 (8 * v7)) &&& Int64.toUInt64 63))) &&& 255))) v7_3 else none : Option (Int32 × Int32 × A32)) = some z := h
    refine g_iload X 3 rfl dX11_letters_108 rfl ?_
    refine g_iload_n X 2 rfl rfl dX11_letters_110 rfl ?_
    refine g_icmp_ge (tgt := 151) X dX11_letters_111 (by decide) rfl h (fun c_1 h => ?_) (fun c_1 h => ?_)
    · refine g_aload_n X 0 rfl rfl dX11_letters_151 rfl ?_
      refine g_getf (C := RX11) (T := TX11) (N := 36) (v := .int c_pageMany) X 0 rfl vc_X11 1 (by decide) iw_X11_letters_X11 fl_X11_letters_X11_1 rfl rfl dX11_letters_152 rfl ?_
      cases Option.some.inj h
      exact hret _ _ dX11_letters_155 rfl
    · refine g_aload_n X 0 rfl rfl dX11_letters_114 rfl ?_
      refine g_getf (C := RX11) (T := TX11) (N := 36) (v := .ref a_page) X 0 rfl vc_X11 0 (by decide) iw_X11_letters_X11 fl_X11_letters_X11_0 rfl rfl dX11_letters_115 rfl ?_
      refine g_aload_n X 0 rfl rfl dX11_letters_118 rfl ?_
      refine g_getf (C := RX11) (T := TX11) (N := 36) (v := .int c_pageMany) X 0 rfl vc_X11 1 (by decide) iw_X11_letters_X11 fl_X11_letters_X11_1 rfl rfl dX11_letters_119 rfl ?_
      refine g_lload_n X 1 rfl rfl dX11_letters_122 rfl ?_
      refine g_bipush (v := 8) X dX11_letters_123 (by decide) rfl ?_
      refine g_iload X 3 rfl dX11_letters_125 rfl ?_
      refine g_imul X dX11_letters_127 rfl ?_
      refine g_lushr X dX11_letters_128 rfl ?_
      refine g_ldc2 (v := 255) X (by decide +kernel) dX11_letters_129 rfl ?_
      refine g_land X dX11_letters_132 rfl ?_
      refine g_l2i X dX11_letters_133 rfl ?_
      refine g_iast (ws' := (w_X11_letters cA a_me a_page a_readRows a_readDraughts a_rows a_draughts a_gas a_heights a_steps a_menRows a_smoke a_lengths a_order a_bestOrder a_savedMen a_savedGas a_keptGas a_keptMenRows u_readMany u_readShafts u_readKnot u_state u_galleries u_minesRead u_moon u_time u_shut u_men u_done u_seedNow u_keptMine u_keptMen u_keptShut u_keptMoon u_keptTime u_hash c_pageMany (upd c_page (Int32.toNatClampNeg c_pageMany) (Int64.toInt32 ((UInt64.toInt64 (Int64.toUInt64 v1 >>> (Int64.toUInt64 (Int32.toInt64 (8 * v7)) &&& Int64.toUInt64 63))) &&& 255))))) X 1 rfl rfl dX11_letters_134 rfl h (fun h => ?_)
      refine g_aload_n X 0 rfl rfl dX11_letters_135 rfl ?_
      refine g_dup X dX11_letters_136 rfl rfl ?_
      refine g_getf (C := RX11) (T := TX11) (N := 36) (v := .int c_pageMany) X 0 rfl vc_X11 1 (by decide) iw_X11_letters_X11 fl_X11_letters_X11_1 rfl rfl dX11_letters_137 rfl ?_
      refine g_iconst (v := 1) X dX11_letters_140 (by decide) rfl ?_
      refine g_iadd X dX11_letters_141 rfl ?_
      refine g_nami h (fun w_2 h => ?_)
      refine g_putf (C := RX11) (T := TX11) (N := 36) (ty := .int) (ws' := (w_X11_letters cA a_me a_page a_readRows a_readDraughts a_rows a_draughts a_gas a_heights a_steps a_menRows a_smoke a_lengths a_order a_bestOrder a_savedMen a_savedGas a_keptGas a_keptMenRows u_readMany u_readShafts u_readKnot u_state u_galleries u_minesRead u_moon u_time u_shut u_men u_done u_seedNow u_keptMine u_keptMen u_keptShut u_keptMoon u_keptTime u_hash w_2 (upd c_page (Int32.toNatClampNeg c_pageMany) (Int64.toInt32 ((UInt64.toInt64 (Int64.toUInt64 v1 >>> (Int64.toUInt64 (Int32.toInt64 (8 * v7)) &&& Int64.toUInt64 63))) &&& 255))))) X 0 tyX11 tyX11_ok nmX11 rfl vc_X11 1 (by decide) iw_X11_letters_X11 fl_X11_letters_X11_1 rfl rfl pd_X11_1 rfl rfl (Nat.le_of_ble_eq_true rfl) rfl dX11_letters_142 rfl ?_
      obtain ⟨v7_3, ev7_3, h⟩ := nam_s h
      refine g_iinc (v := v7_3) (lv' := [(7, .int v7_3), (0, .ref a_me), (1, .long v1), (3, .int v3)]) X 3 rfl (by rw [ev7_3]; rfl) (by decide) rfl dX11_letters_145 rfl ?_
      refine g_goto (tgt := 108) X dX11_letters_148 (by decide) ?_
      refine g_lvs [1, 2, 3, 0] rfl ?_
      exact ih _ _ _ h
set_option maxHeartbeats 4000000 in
set_option maxRecDepth 100000 in
theorem t_X11_letters_b11 {l : Launch} {D : va_G} {cA : ClassId} {p : Program} {e : Env} {s : State} {m : MethodId} {args : Array Value} {below : List Frame} {meth : Method} {c : Code} {A : Nat → Prop} {Q : State → Prop} {z : Int32 × Int32 × A32} {a_me a_page a_readRows a_readDraughts a_rows a_draughts a_gas a_heights a_steps a_menRows a_smoke a_lengths a_order a_bestOrder a_savedMen a_savedGas a_keptGas a_keptMenRows : Nat} {u_readMany : Int32} {u_readShafts : Int32} {u_readKnot : Int32} {u_state : Int32} {u_galleries : Int32} {u_minesRead : Int32} {u_moon : Int32} {u_time : Int32} {u_shut : Int32} {u_men : Int32} {u_done : Int32} {u_seedNow : Int32} {u_keptMine : Int32} {u_keptMen : Int32} {u_keptShut : Int32} {u_keptMoon : Int32} {u_keptTime : Int32} {u_hash : Int64}  {c_pageMany : Int32} {c_page : A32} {v1 : Int64}  (X : GX p s m args c cX11_letters RX11 wsX11_letters D cA A 9) (hret : RtI p l e rm_X11_letters s m args below meth c cX11_letters D A 9 0 0 Q .int z.1 (w_X11_letters cA a_me a_page a_readRows a_readDraughts a_rows a_draughts a_gas a_heights a_steps a_menRows a_smoke a_lengths a_order a_bestOrder a_savedMen a_savedGas a_keptGas a_keptMenRows u_readMany u_readShafts u_readKnot u_state u_galleries u_minesRead u_moon u_time u_shut u_men u_done u_seedNow u_keptMine u_keptMen u_keptShut u_keptMoon u_keptTime u_hash z.2.1 z.2.2))  : ∀ (fu : Nat) (v3 : Int32) (v4 : Int32) (v5 : Int64) (v7 : Int32), f_X11_letters_b11 c_pageMany c_page v1 fu v3 v4 v5 v7 = some z → G p l e rm_X11_letters s m args below meth c D A 9 0 0 Q 11 [(0, .ref a_me), (1, .long v1), (3, .int v3), (4, .int v4), (5, .long v5), (7, .int v7)] [] (w_X11_letters cA a_me a_page a_readRows a_readDraughts a_rows a_draughts a_gas a_heights a_steps a_menRows a_smoke a_lengths a_order a_bestOrder a_savedMen a_savedGas a_keptGas a_keptMenRows u_readMany u_readShafts u_readKnot u_state u_galleries u_minesRead u_moon u_time u_shut u_men u_done u_seedNow u_keptMine u_keptMen u_keptShut u_keptMoon u_keptTime u_hash c_pageMany c_page) := by
  intro fu
  induction fu with
  | zero => intro v3 v4 v5 v7 h; exact absurd (show (none : Option (Int32 × Int32 × A32)) = some z from h) (by simp)
  | succ fu ih =>
    intro v3 v4 v5 v7 h
    have h : (if 8 ≤ v7 then if v4 = 0 then some ((-102), c_pageMany, c_page) else if (c_pageMany + v3) ≤ 66 then f_X11_letters_b108 v1 v3 FU c_pageMany c_page 0 else some ((-104), c_pageMany, c_page) else nam (Int64.toInt32 (v5 &&& 255)) fun v8_4 => nam (UInt64.toInt64 (Int64.toUInt64 v5 >>> (Int64.toUInt64 (Int32.toInt64 8) &&& Int64.toUInt64 63))) fun v5_5 => if v4 = 0 then f_X11_letters_b61 (f_X11_letters_b11 c_pageMany c_page v1 fu) c_pageMany c_page v1 v3 v5_5 v7 v8_4 else if 126 < v8_4 then f_X11_letters_b61 (f_X11_letters_b11 c_pageMany c_page v1 fu) c_pageMany c_page v1 v3 v5_5 v7 v8_4 else if v8_4 = 0 then f_X11_letters_b57 (f_X11_letters_b11 c_pageMany c_page v1 fu) c_pageMany c_page v1 v3 v5_5 v7 v8_4 else if v3 = v7 then f_X11_letters_b57 (f_X11_letters_b11 c_pageMany c_page v1 fu) c_pageMany c_page v1 v3 v5_5 v7 v8_4 else f_X11_letters_b61 (f_X11_letters_b11 c_pageMany c_page v1 fu) c_pageMany c_page v1 v3 v5_5 v7 v8_4 : Option (Int32 × Int32 × A32)) = some z := h
    refine g_iload X 5 rfl dX11_letters_11 rfl ?_
    refine g_bipush (v := 8) X dX11_letters_13 (by decide) rfl ?_
    refine g_icmp_ge (tgt := 83) X dX11_letters_15 (by decide) rfl h (fun c_1 h => ?_) (fun c_1 h => ?_)
    · refine g_iload X 3 rfl dX11_letters_83 rfl ?_
      refine g_if_ne (tgt := 91) X dX11_letters_85 (by decide) rfl h (fun c_2 h => ?_) (fun c_2 h => ?_)
      · refine g_aload_n X 0 rfl rfl dX11_letters_91 rfl ?_
        refine g_getf (C := RX11) (T := TX11) (N := 36) (v := .int c_pageMany) X 0 rfl vc_X11 1 (by decide) iw_X11_letters_X11 fl_X11_letters_X11_1 rfl rfl dX11_letters_92 rfl ?_
        refine g_iload_n X 2 rfl rfl dX11_letters_95 rfl ?_
        refine g_iadd X dX11_letters_96 rfl ?_
        refine g_bipush (v := 66) X dX11_letters_97 (by decide) rfl ?_
        refine g_icmp_le (tgt := 105) X dX11_letters_99 (by decide) rfl h (fun c_3 h => ?_) (fun c_3 h => ?_)
        · refine g_iconst (v := 0) X dX11_letters_105 (by decide) rfl ?_
          refine g_istore (lv' := [(7, .int 0), (0, .ref a_me), (1, .long v1), (3, .int v3), (4, .int v4), (5, .long v5)]) X (by decide) rfl dX11_letters_106 rfl ?_
          refine g_lvs [1, 2, 3, 0] rfl ?_
          exact t_X11_letters_b108 X hret _ _ _ _ h
        · refine g_bipush (v := (-104)) X dX11_letters_102 (by decide) rfl ?_
          cases Option.some.inj h
          exact hret _ _ dX11_letters_104 rfl
      · refine g_bipush (v := (-102)) X dX11_letters_88 (by decide) rfl ?_
        cases Option.some.inj h
        exact hret _ _ dX11_letters_90 rfl
    · refine g_lload X 4 rfl dX11_letters_18 rfl ?_
      refine g_ldc2 (v := 255) X (by decide +kernel) dX11_letters_20 rfl ?_
      refine g_land X dX11_letters_23 rfl ?_
      refine g_l2i X dX11_letters_24 rfl ?_
      refine g_nami h (fun v8_4 h => ?_)
      refine g_istore (lv' := [(8, .int v8_4), (0, .ref a_me), (1, .long v1), (3, .int v3), (4, .int v4), (5, .long v5), (7, .int v7)]) X (by decide) rfl dX11_letters_25 rfl ?_
      refine g_lload X 5 rfl dX11_letters_27 rfl ?_
      refine g_bipush (v := 8) X dX11_letters_29 (by decide) rfl ?_
      refine g_lushr X dX11_letters_31 rfl ?_
      refine g_naml h (fun v5_5 h => ?_)
      refine g_lstore (lv' := [(5, .long v5_5), (8, .int v8_4), (0, .ref a_me), (1, .long v1), (3, .int v3), (4, .int v4), (7, .int v7)]) X (by decide) rfl dX11_letters_32 rfl ?_
      refine g_iload X 5 rfl dX11_letters_34 rfl ?_
      refine g_if_eq (tgt := 61) X dX11_letters_36 (by decide) rfl h (fun c_6 h => ?_) (fun c_6 h => ?_)
      · refine g_lvs [2, 3, 4, 0, 6, 1] rfl ?_
        exact t_X11_letters_b61 X hret ih h
      · refine g_iload X 1 rfl dX11_letters_39 rfl ?_
        refine g_bipush (v := 126) X dX11_letters_41 (by decide) rfl ?_
        refine g_icmp_gt (tgt := 61) X dX11_letters_43 (by decide) rfl h (fun c_7 h => ?_) (fun c_7 h => ?_)
        · refine g_lvs [2, 3, 4, 0, 6, 1] rfl ?_
          exact t_X11_letters_b61 X hret ih h
        · refine g_iload X 1 rfl dX11_letters_46 rfl ?_
          refine g_if_eq (tgt := 57) X dX11_letters_48 (by decide) rfl h (fun c_8 h => ?_) (fun c_8 h => ?_)
          · refine g_lvs [2, 3, 4, 0, 6, 1] rfl ?_
            exact t_X11_letters_b57 X hret ih h
          · refine g_iload_n X 4 rfl rfl dX11_letters_51 rfl ?_
            refine g_iload X 6 rfl dX11_letters_52 rfl ?_
            refine g_icmp_ne (tgt := 61) X dX11_letters_54 (by decide) rfl h (fun c_9 h => ?_) (fun c_9 h => ?_)
            · refine g_lvs [2, 3, 4, 0, 6, 1] rfl ?_
              exact t_X11_letters_b61 X hret ih h
            · refine g_lvs [2, 3, 4, 0, 6, 1] rfl ?_
              exact t_X11_letters_b57 X hret ih h
set_option maxHeartbeats 4000000 in
set_option maxRecDepth 100000 in
theorem c_X11_letters (l : Launch) (D : va_G) (cA : ClassId) (a_me a_page a_readRows a_readDraughts a_rows a_draughts a_gas a_heights a_steps a_menRows a_smoke a_lengths a_order a_bestOrder a_savedMen a_savedGas a_keptGas a_keptMenRows : Nat) (u_readMany : Int32) (u_readShafts : Int32) (u_readKnot : Int32) (u_state : Int32) (u_galleries : Int32) (u_minesRead : Int32) (u_moon : Int32) (u_time : Int32) (u_shut : Int32) (u_men : Int32) (u_done : Int32) (u_seedNow : Int32) (u_keptMine : Int32) (u_keptMen : Int32) (u_keptShut : Int32) (u_keptMoon : Int32) (u_keptTime : Int32) (u_hash : Int64) (c_pageMany : Int32) (c_page : A32) (v1 : Int64) (z : Int32 × Int32 × A32) (h : f_X11_letters c_pageMany c_page v1 = some z) : CtI l yX11_letters wsX11_letters rm_X11_letters D cA [.ref a_me, .long v1] (w_X11_letters cA a_me a_page a_readRows a_readDraughts a_rows a_draughts a_gas a_heights a_steps a_menRows a_smoke a_lengths a_order a_bestOrder a_savedMen a_savedGas a_keptGas a_keptMenRows u_readMany u_readShafts u_readKnot u_state u_galleries u_minesRead u_moon u_time u_shut u_men u_done u_seedNow u_keptMine u_keptMen u_keptShut u_keptMoon u_keptTime u_hash c_pageMany c_page) z.1 (w_X11_letters cA a_me a_page a_readRows a_readDraughts a_rows a_draughts a_gas a_heights a_steps a_menRows a_smoke a_lengths a_order a_bestOrder a_savedMen a_savedGas a_keptGas a_keptMenRows u_readMany u_readShafts u_readKnot u_state u_galleries u_minesRead u_moon u_time u_shut u_men u_done u_seedNow u_keptMine u_keptMen u_keptShut u_keptMoon u_keptTime u_hash z.2.1 z.2.2) := by
  refine ct_I (maxL := 9) (ty := .int) (cc := cX11_letters) (by decide) rfl (Nat.le_of_ble_eq_true rfl) rfl (fun p e s m args below meth c A Q X hret => ?_)
  have h : (f_X11_letters_b11 c_pageMany c_page v1 FU 0 1 v1 0 : Option (Int32 × Int32 × A32)) = some z := h
  refine g_iconst (v := 0) X dX11_letters_0 (by decide) rfl ?_
  refine g_istore_n (lv' := [(3, .int 0), (0, .ref a_me), (1, .long v1)]) X rfl (by decide) rfl dX11_letters_1 rfl ?_
  refine g_iconst (v := 1) X dX11_letters_2 (by decide) rfl ?_
  refine g_istore (lv' := [(4, .int 1), (3, .int 0), (0, .ref a_me), (1, .long v1)]) X (by decide) rfl dX11_letters_3 rfl ?_
  refine g_lload_n X 3 rfl rfl dX11_letters_5 rfl ?_
  refine g_lstore (lv' := [(5, .long v1), (4, .int 1), (3, .int 0), (0, .ref a_me), (1, .long v1)]) X (by decide) rfl dX11_letters_6 rfl ?_
  refine g_iconst (v := 0) X dX11_letters_8 (by decide) rfl ?_
  refine g_istore (lv' := [(7, .int 0), (5, .long v1), (4, .int 1), (3, .int 0), (0, .ref a_me), (1, .long v1)]) X (by decide) rfl dX11_letters_9 rfl ?_
  refine g_lvs [4, 5, 3, 2, 1, 0] rfl ?_
  exact t_X11_letters_b11 X hret _ _ _ _ _ h
abbrev rm_X11_blank : Room := { frames := 0, cells := 0, slots := 0, locals := 0 }
abbrev w_X11_blank (cA : ClassId) (a_me a_page a_readRows a_readDraughts a_rows a_draughts a_gas a_heights a_steps a_menRows a_smoke a_lengths a_order a_bestOrder a_savedMen a_savedGas a_keptGas a_keptMenRows : Nat) (u_readMany : Int32) (u_readShafts : Int32) (u_readKnot : Int32) (u_state : Int32) (u_galleries : Int32) (u_minesRead : Int32) (u_moon : Int32) (u_time : Int32) (u_shut : Int32) (u_men : Int32) (u_done : Int32) (u_seedNow : Int32) (u_keptMine : Int32) (u_keptMen : Int32) (u_keptShut : Int32) (u_keptMoon : Int32) (u_keptTime : Int32) (u_hash : Int64) (c_pageMany : Int32) : va_W := [(a_me, .inr (11, [.ref a_page, .int c_pageMany, .ref a_readRows, .ref a_readDraughts, .int u_readMany, .int u_readShafts, .int u_readKnot, .int u_state, .int u_galleries, .int u_minesRead, .int u_moon, .int u_time, .ref a_rows, .ref a_draughts, .int u_shut, .ref a_gas, .ref a_heights, .ref a_steps, .int u_men, .ref a_menRows, .ref a_smoke, .int u_done, .ref a_lengths, .ref a_order, .ref a_bestOrder, .int u_seedNow, .ref a_savedMen, .ref a_savedGas, .int u_keptMine, .int u_keptMen, .int u_keptShut, .int u_keptMoon, .int u_keptTime, .ref a_keptGas, .ref a_keptMenRows, .long u_hash]))]
theorem hd_X11_blank : yX11_blank.cls ≠ "java/lang/invoke/MethodHandle" ∧ yX11_blank.cls ≠ "java/lang/invoke/VarHandle" ∧ (parseMethodDescriptor yX11_blank.desc).map (fun d => d.parameters.length) = some 0 := by decide +kernel
theorem iw_X11_blank_X11 : ∀ w ∈ wsX110, w ∈ wsX11_blank := fun w h => List.mem_cons_of_mem _ (List.mem_append_right _ h)
theorem fl_X11_blank_X11_1 : Cond.fieldLink RX11 67 RX11 (TX11 1).2.1 (TX11 1).2.2.1 ∈ wsX11_blank := List.mem_of_getElem? (i := 1) rfl
set_option maxHeartbeats 4000000 in
set_option maxRecDepth 100000 in
theorem c_X11_blank (l : Launch) (D : va_G) (cA : ClassId) (a_me a_page a_readRows a_readDraughts a_rows a_draughts a_gas a_heights a_steps a_menRows a_smoke a_lengths a_order a_bestOrder a_savedMen a_savedGas a_keptGas a_keptMenRows : Nat) (u_readMany : Int32) (u_readShafts : Int32) (u_readKnot : Int32) (u_state : Int32) (u_galleries : Int32) (u_minesRead : Int32) (u_moon : Int32) (u_time : Int32) (u_shut : Int32) (u_men : Int32) (u_done : Int32) (u_seedNow : Int32) (u_keptMine : Int32) (u_keptMen : Int32) (u_keptShut : Int32) (u_keptMoon : Int32) (u_keptTime : Int32) (u_hash : Int64) (c_pageMany : Int32) (z : Int32 × Int32) (h : f_X11_blank c_pageMany = some z) : CtI l yX11_blank wsX11_blank rm_X11_blank D cA [.ref a_me] (w_X11_blank cA a_me a_page a_readRows a_readDraughts a_rows a_draughts a_gas a_heights a_steps a_menRows a_smoke a_lengths a_order a_bestOrder a_savedMen a_savedGas a_keptGas a_keptMenRows u_readMany u_readShafts u_readKnot u_state u_galleries u_minesRead u_moon u_time u_shut u_men u_done u_seedNow u_keptMine u_keptMen u_keptShut u_keptMoon u_keptTime u_hash c_pageMany) z.1 (w_X11_blank cA a_me a_page a_readRows a_readDraughts a_rows a_draughts a_gas a_heights a_steps a_menRows a_smoke a_lengths a_order a_bestOrder a_savedMen a_savedGas a_keptGas a_keptMenRows u_readMany u_readShafts u_readKnot u_state u_galleries u_minesRead u_moon u_time u_shut u_men u_done u_seedNow u_keptMine u_keptMen u_keptShut u_keptMoon u_keptTime u_hash z.2) := by
  refine ct_I (maxL := 2) (ty := .int) (cc := cX11_blank) (by decide) rfl (Nat.le_of_ble_eq_true rfl) rfl (fun p e s m args below meth c A Q X hret => ?_)
  have h : (some (c_pageMany, 0) : Option (Int32 × Int32)) = some z := h
  refine g_aload_n X 0 rfl rfl dX11_blank_0 rfl ?_
  refine g_getf (C := RX11) (T := TX11) (N := 36) (v := .int c_pageMany) X 0 rfl vc_X11 1 (by decide) iw_X11_blank_X11 fl_X11_blank_X11_1 rfl rfl dX11_blank_1 rfl ?_
  refine g_istore_n (lv' := [(1, .int c_pageMany), (0, .ref a_me)]) X rfl (by decide) rfl dX11_blank_4 rfl ?_
  refine g_aload_n X 1 rfl rfl dX11_blank_5 rfl ?_
  refine g_iconst (v := 0) X dX11_blank_6 (by decide) rfl ?_
  refine g_putf (C := RX11) (T := TX11) (N := 36) (ty := .int) (ws' := (w_X11_blank cA a_me a_page a_readRows a_readDraughts a_rows a_draughts a_gas a_heights a_steps a_menRows a_smoke a_lengths a_order a_bestOrder a_savedMen a_savedGas a_keptGas a_keptMenRows u_readMany u_readShafts u_readKnot u_state u_galleries u_minesRead u_moon u_time u_shut u_men u_done u_seedNow u_keptMine u_keptMen u_keptShut u_keptMoon u_keptTime u_hash 0)) X 0 tyX11 tyX11_ok nmX11 rfl vc_X11 1 (by decide) iw_X11_blank_X11 fl_X11_blank_X11_1 rfl rfl pd_X11_1 rfl rfl (Nat.le_of_ble_eq_true rfl) rfl dX11_blank_7 rfl ?_
  refine g_iload_n X 0 rfl rfl dX11_blank_10 rfl ?_
  cases Option.some.inj h
  exact hret _ _ dX11_blank_11 rfl
abbrev rm_X11_goGallery : Room := { frames := 1, cells := 0, slots := 0, locals := 25 }
abbrev w_X11_goGallery (cA : ClassId) (a_me a_page a_readRows a_readDraughts a_rows a_draughts a_gas a_heights a_steps a_menRows a_smoke a_lengths a_order a_bestOrder a_savedMen a_savedGas a_keptGas a_keptMenRows : Nat) (u_pageMany : Int32) (u_readShafts : Int32) (u_readKnot : Int32) (u_galleries : Int32) (u_minesRead : Int32) (u_moon : Int32) (u_time : Int32) (u_shut : Int32) (u_men : Int32) (u_done : Int32) (u_seedNow : Int32) (u_keptMine : Int32) (u_keptMen : Int32) (u_keptShut : Int32) (u_keptMoon : Int32) (u_keptTime : Int32) (u_hash : Int64) (c_readMany : Int32) (c_state : Int32) (c_readRows : A32) : va_W := [(a_me, .inr (11, [.ref a_page, .int u_pageMany, .ref a_readRows, .ref a_readDraughts, .int c_readMany, .int u_readShafts, .int u_readKnot, .int c_state, .int u_galleries, .int u_minesRead, .int u_moon, .int u_time, .ref a_rows, .ref a_draughts, .int u_shut, .ref a_gas, .ref a_heights, .ref a_steps, .int u_men, .ref a_menRows, .ref a_smoke, .int u_done, .ref a_lengths, .ref a_order, .ref a_bestOrder, .int u_seedNow, .ref a_savedMen, .ref a_savedGas, .int u_keptMine, .int u_keptMen, .int u_keptShut, .int u_keptMoon, .int u_keptTime, .ref a_keptGas, .ref a_keptMenRows, .long u_hash])), (a_readRows, .inl (cA, 40, .inl c_readRows))]
theorem hd_X11_goGallery : yX11_goGallery.cls ≠ "java/lang/invoke/MethodHandle" ∧ yX11_goGallery.cls ≠ "java/lang/invoke/VarHandle" ∧ (parseMethodDescriptor yX11_goGallery.desc).map (fun d => d.parameters.length) = some 1 := by decide +kernel
theorem iw_X11_goGallery_X11 : ∀ w ∈ wsX110, w ∈ wsX11_goGallery := fun w h => List.mem_cons_of_mem _ (List.mem_append_right _ h)
theorem fl_X11_goGallery_X11_4 : Cond.fieldLink RX11 70 RX11 (TX11 4).2.1 (TX11 4).2.2.1 ∈ wsX11_goGallery := List.mem_of_getElem? (i := 1) rfl
theorem fl_X11_goGallery_X11_7 : Cond.fieldLink RX11 73 RX11 (TX11 7).2.1 (TX11 7).2.2.1 ∈ wsX11_goGallery := List.mem_of_getElem? (i := 2) rfl
theorem fl_X11_goGallery_X11_2 : Cond.fieldLink RX11 13 RX11 (TX11 2).2.1 (TX11 2).2.2.1 ∈ wsX11_goGallery := List.mem_of_getElem? (i := 3) rfl
set_option maxHeartbeats 4000000 in
set_option maxRecDepth 100000 in
theorem t_X11_goGallery_b109 {l : Launch} {D : va_G} {cA : ClassId} {p : Program} {e : Env} {s : State} {m : MethodId} {args : Array Value} {below : List Frame} {meth : Method} {c : Code} {A : Nat → Prop} {Q : State → Prop} {z : Int32 × Int32 × Int32 × A32} {a_me a_page a_readRows a_readDraughts a_rows a_draughts a_gas a_heights a_steps a_menRows a_smoke a_lengths a_order a_bestOrder a_savedMen a_savedGas a_keptGas a_keptMenRows : Nat} {u_pageMany : Int32} {u_readShafts : Int32} {u_readKnot : Int32} {u_galleries : Int32} {u_minesRead : Int32} {u_moon : Int32} {u_time : Int32} {u_shut : Int32} {u_men : Int32} {u_done : Int32} {u_seedNow : Int32} {u_keptMine : Int32} {u_keptMen : Int32} {u_keptShut : Int32} {u_keptMoon : Int32} {u_keptTime : Int32} {u_hash : Int64}  {c_readMany : Int32} {c_state : Int32} {c_readRows : A32} {v3 : Int32}  (X : GX p s m args c cX11_goGallery RX11 wsX11_goGallery D cA A 4) (hret : RtI p l e rm_X11_goGallery s m args below meth c cX11_goGallery D A 4 0 0 Q .boolean z.1 (w_X11_goGallery cA a_me a_page a_readRows a_readDraughts a_rows a_draughts a_gas a_heights a_steps a_menRows a_smoke a_lengths a_order a_bestOrder a_savedMen a_savedGas a_keptGas a_keptMenRows u_pageMany u_readShafts u_readKnot u_galleries u_minesRead u_moon u_time u_shut u_men u_done u_seedNow u_keptMine u_keptMen u_keptShut u_keptMoon u_keptTime u_hash z.2.1 z.2.2.1 z.2.2.2))  (h : f_X11_goGallery_b109 c_readMany c_state c_readRows v3 = some z) : G p l e rm_X11_goGallery s m args below meth c D A 4 0 0 Q 109 [(0, .ref a_me), (3, .int v3)] [] (w_X11_goGallery cA a_me a_page a_readRows a_readDraughts a_rows a_draughts a_gas a_heights a_steps a_menRows a_smoke a_lengths a_order a_bestOrder a_savedMen a_savedGas a_keptGas a_keptMenRows u_pageMany u_readShafts u_readKnot u_galleries u_minesRead u_moon u_time u_shut u_men u_done u_seedNow u_keptMine u_keptMen u_keptShut u_keptMoon u_keptTime u_hash c_readMany c_state c_readRows) := by
  have h : (nam (c_state + 1) fun w_1 => if v3 = 0 ∨ v3 = 1 then some (v3, c_readMany, w_1, c_readRows) else none : Option (Int32 × Int32 × Int32 × A32)) = some z := h
  refine g_aload_n X 0 rfl rfl dX11_goGallery_109 rfl ?_
  refine g_dup X dX11_goGallery_110 rfl rfl ?_
  refine g_getf (C := RX11) (T := TX11) (N := 36) (v := .int c_state) X 0 rfl vc_X11 7 (by decide) iw_X11_goGallery_X11 fl_X11_goGallery_X11_7 rfl rfl dX11_goGallery_111 rfl ?_
  refine g_iconst (v := 1) X dX11_goGallery_114 (by decide) rfl ?_
  refine g_iadd X dX11_goGallery_115 rfl ?_
  refine g_nami h (fun w_1 h => ?_)
  refine g_putf (C := RX11) (T := TX11) (N := 36) (ty := .int) (ws' := (w_X11_goGallery cA a_me a_page a_readRows a_readDraughts a_rows a_draughts a_gas a_heights a_steps a_menRows a_smoke a_lengths a_order a_bestOrder a_savedMen a_savedGas a_keptGas a_keptMenRows u_pageMany u_readShafts u_readKnot u_galleries u_minesRead u_moon u_time u_shut u_men u_done u_seedNow u_keptMine u_keptMen u_keptShut u_keptMoon u_keptTime u_hash c_readMany w_1 c_readRows)) X 0 tyX11 tyX11_ok nmX11 rfl vc_X11 7 (by decide) iw_X11_goGallery_X11 fl_X11_goGallery_X11_7 rfl rfl pd_X11_7 rfl rfl (Nat.le_of_ble_eq_true rfl) rfl dX11_goGallery_116 rfl ?_
  refine g_iload_n X 1 rfl rfl dX11_goGallery_119 rfl ?_
  obtain ⟨c_2, h⟩ := ite_y h
  cases Option.some.inj h
  exact hret _ _ dX11_goGallery_120 (nar_z c_2)
set_option maxHeartbeats 4000000 in
set_option maxRecDepth 100000 in
theorem t_X11_goGallery_b92 {l : Launch} {D : va_G} {cA : ClassId} {p : Program} {e : Env} {s : State} {m : MethodId} {args : Array Value} {below : List Frame} {meth : Method} {c : Code} {A : Nat → Prop} {Q : State → Prop} {z : Int32 × Int32 × Int32 × A32} {a_me a_page a_readRows a_readDraughts a_rows a_draughts a_gas a_heights a_steps a_menRows a_smoke a_lengths a_order a_bestOrder a_savedMen a_savedGas a_keptGas a_keptMenRows : Nat} {u_pageMany : Int32} {u_readShafts : Int32} {u_readKnot : Int32} {u_galleries : Int32} {u_minesRead : Int32} {u_moon : Int32} {u_time : Int32} {u_shut : Int32} {u_men : Int32} {u_done : Int32} {u_seedNow : Int32} {u_keptMine : Int32} {u_keptMen : Int32} {u_keptShut : Int32} {u_keptMoon : Int32} {u_keptTime : Int32} {u_hash : Int64}  {c_readMany : Int32} {c_state : Int32} {c_readRows : A32} {t0 : Int32} {v1 : Int32} {v2 : Int32}  (X : GX p s m args c cX11_goGallery RX11 wsX11_goGallery D cA A 4) (hret : RtI p l e rm_X11_goGallery s m args below meth c cX11_goGallery D A 4 0 0 Q .boolean z.1 (w_X11_goGallery cA a_me a_page a_readRows a_readDraughts a_rows a_draughts a_gas a_heights a_steps a_menRows a_smoke a_lengths a_order a_bestOrder a_savedMen a_savedGas a_keptGas a_keptMenRows u_pageMany u_readShafts u_readKnot u_galleries u_minesRead u_moon u_time u_shut u_men u_done u_seedNow u_keptMine u_keptMen u_keptShut u_keptMoon u_keptTime u_hash z.2.1 z.2.2.1 z.2.2.2))  (h : f_X11_goGallery_b92 c_readMany c_state c_readRows t0 v1 v2 = some z) : G p l e rm_X11_goGallery s m args below meth c D A 4 0 0 Q 92 [(0, .ref a_me), (1, .int v1), (2, .int v2)] [.int t0] (w_X11_goGallery cA a_me a_page a_readRows a_readDraughts a_rows a_draughts a_gas a_heights a_steps a_menRows a_smoke a_lengths a_order a_bestOrder a_savedMen a_savedGas a_keptGas a_keptMenRows u_pageMany u_readShafts u_readKnot u_galleries u_minesRead u_moon u_time u_shut u_men u_done u_seedNow u_keptMine u_keptMen u_keptShut u_keptMoon u_keptTime u_hash c_readMany c_state c_readRows) := by
  have h : (if t0 = 0 then f_X11_goGallery_b109 c_readMany c_state c_readRows t0 else if inB (v2 + c_state) 40 then f_X11_goGallery_b109 c_readMany c_state (upd c_readRows (Int32.toNatClampNeg (v2 + c_state)) v1) t0 else none : Option (Int32 × Int32 × Int32 × A32)) = some z := h
  refine g_istore_n (lv' := [(3, .int t0), (0, .ref a_me), (1, .int v1), (2, .int v2)]) X rfl (by decide) rfl dX11_goGallery_92 rfl ?_
  refine g_iload_n X 0 rfl rfl dX11_goGallery_93 rfl ?_
  refine g_if_eq (tgt := 109) X dX11_goGallery_94 (by decide) rfl h (fun c_1 h => ?_) (fun c_1 h => ?_)
  · refine g_lvs [1, 0] rfl ?_
    exact t_X11_goGallery_b109 X hret h
  · refine g_aload_n X 1 rfl rfl dX11_goGallery_97 rfl ?_
    refine g_getf (C := RX11) (T := TX11) (N := 36) (v := .ref a_readRows) X 0 rfl vc_X11 2 (by decide) iw_X11_goGallery_X11 fl_X11_goGallery_X11_2 rfl rfl dX11_goGallery_98 rfl ?_
    refine g_iload_n X 3 rfl rfl dX11_goGallery_101 rfl ?_
    refine g_aload_n X 1 rfl rfl dX11_goGallery_102 rfl ?_
    refine g_getf (C := RX11) (T := TX11) (N := 36) (v := .int c_state) X 0 rfl vc_X11 7 (by decide) iw_X11_goGallery_X11 fl_X11_goGallery_X11_7 rfl rfl dX11_goGallery_103 rfl ?_
    refine g_iadd X dX11_goGallery_106 rfl ?_
    refine g_iload_n X 2 rfl rfl dX11_goGallery_107 rfl ?_
    refine g_iast (ws' := (w_X11_goGallery cA a_me a_page a_readRows a_readDraughts a_rows a_draughts a_gas a_heights a_steps a_menRows a_smoke a_lengths a_order a_bestOrder a_savedMen a_savedGas a_keptGas a_keptMenRows u_pageMany u_readShafts u_readKnot u_galleries u_minesRead u_moon u_time u_shut u_men u_done u_seedNow u_keptMine u_keptMen u_keptShut u_keptMoon u_keptTime u_hash c_readMany c_state (upd c_readRows (Int32.toNatClampNeg (v2 + c_state)) v1))) X 1 rfl rfl dX11_goGallery_108 rfl h (fun h => ?_)
    refine g_lvs [1, 0] rfl ?_
    exact t_X11_goGallery_b109 X hret h
set_option maxHeartbeats 4000000 in
set_option maxRecDepth 100000 in
theorem t_X11_goGallery_b87 {l : Launch} {D : va_G} {cA : ClassId} {p : Program} {e : Env} {s : State} {m : MethodId} {args : Array Value} {below : List Frame} {meth : Method} {c : Code} {A : Nat → Prop} {Q : State → Prop} {z : Int32 × Int32 × Int32 × A32} {a_me a_page a_readRows a_readDraughts a_rows a_draughts a_gas a_heights a_steps a_menRows a_smoke a_lengths a_order a_bestOrder a_savedMen a_savedGas a_keptGas a_keptMenRows : Nat} {u_pageMany : Int32} {u_readShafts : Int32} {u_readKnot : Int32} {u_galleries : Int32} {u_minesRead : Int32} {u_moon : Int32} {u_time : Int32} {u_shut : Int32} {u_men : Int32} {u_done : Int32} {u_seedNow : Int32} {u_keptMine : Int32} {u_keptMen : Int32} {u_keptShut : Int32} {u_keptMoon : Int32} {u_keptTime : Int32} {u_hash : Int64}  {c_readMany : Int32} {c_state : Int32} {c_readRows : A32} {v1 : Int32} {v2 : Int32}  (X : GX p s m args c cX11_goGallery RX11 wsX11_goGallery D cA A 4) (hret : RtI p l e rm_X11_goGallery s m args below meth c cX11_goGallery D A 4 0 0 Q .boolean z.1 (w_X11_goGallery cA a_me a_page a_readRows a_readDraughts a_rows a_draughts a_gas a_heights a_steps a_menRows a_smoke a_lengths a_order a_bestOrder a_savedMen a_savedGas a_keptGas a_keptMenRows u_pageMany u_readShafts u_readKnot u_galleries u_minesRead u_moon u_time u_shut u_men u_done u_seedNow u_keptMine u_keptMen u_keptShut u_keptMoon u_keptTime u_hash z.2.1 z.2.2.1 z.2.2.2))  (h : f_X11_goGallery_b87 c_readMany c_state c_readRows v1 v2 = some z) : G p l e rm_X11_goGallery s m args below meth c D A 4 0 0 Q 87 [(0, .ref a_me), (1, .int v1), (2, .int v2)] [] (w_X11_goGallery cA a_me a_page a_readRows a_readDraughts a_rows a_draughts a_gas a_heights a_steps a_menRows a_smoke a_lengths a_order a_bestOrder a_savedMen a_savedGas a_keptGas a_keptMenRows u_pageMany u_readShafts u_readKnot u_galleries u_minesRead u_moon u_time u_shut u_men u_done u_seedNow u_keptMine u_keptMen u_keptShut u_keptMoon u_keptTime u_hash c_readMany c_state c_readRows) := by
  have h : (f_X11_goGallery_b92 c_readMany c_state c_readRows 1 v1 v2 : Option (Int32 × Int32 × Int32 × A32)) = some z := h
  refine g_iconst (v := 1) X dX11_goGallery_87 (by decide) rfl ?_
  refine g_goto (tgt := 92) X dX11_goGallery_88 (by decide) ?_
  exact t_X11_goGallery_b92 X hret h
set_option maxHeartbeats 4000000 in
set_option maxRecDepth 100000 in
theorem t_X11_goGallery_b91 {l : Launch} {D : va_G} {cA : ClassId} {p : Program} {e : Env} {s : State} {m : MethodId} {args : Array Value} {below : List Frame} {meth : Method} {c : Code} {A : Nat → Prop} {Q : State → Prop} {z : Int32 × Int32 × Int32 × A32} {a_me a_page a_readRows a_readDraughts a_rows a_draughts a_gas a_heights a_steps a_menRows a_smoke a_lengths a_order a_bestOrder a_savedMen a_savedGas a_keptGas a_keptMenRows : Nat} {u_pageMany : Int32} {u_readShafts : Int32} {u_readKnot : Int32} {u_galleries : Int32} {u_minesRead : Int32} {u_moon : Int32} {u_time : Int32} {u_shut : Int32} {u_men : Int32} {u_done : Int32} {u_seedNow : Int32} {u_keptMine : Int32} {u_keptMen : Int32} {u_keptShut : Int32} {u_keptMoon : Int32} {u_keptTime : Int32} {u_hash : Int64}  {c_readMany : Int32} {c_state : Int32} {c_readRows : A32} {v1 : Int32} {v2 : Int32}  (X : GX p s m args c cX11_goGallery RX11 wsX11_goGallery D cA A 4) (hret : RtI p l e rm_X11_goGallery s m args below meth c cX11_goGallery D A 4 0 0 Q .boolean z.1 (w_X11_goGallery cA a_me a_page a_readRows a_readDraughts a_rows a_draughts a_gas a_heights a_steps a_menRows a_smoke a_lengths a_order a_bestOrder a_savedMen a_savedGas a_keptGas a_keptMenRows u_pageMany u_readShafts u_readKnot u_galleries u_minesRead u_moon u_time u_shut u_men u_done u_seedNow u_keptMine u_keptMen u_keptShut u_keptMoon u_keptTime u_hash z.2.1 z.2.2.1 z.2.2.2))  (h : f_X11_goGallery_b91 c_readMany c_state c_readRows v1 v2 = some z) : G p l e rm_X11_goGallery s m args below meth c D A 4 0 0 Q 91 [(0, .ref a_me), (1, .int v1), (2, .int v2)] [] (w_X11_goGallery cA a_me a_page a_readRows a_readDraughts a_rows a_draughts a_gas a_heights a_steps a_menRows a_smoke a_lengths a_order a_bestOrder a_savedMen a_savedGas a_keptGas a_keptMenRows u_pageMany u_readShafts u_readKnot u_galleries u_minesRead u_moon u_time u_shut u_men u_done u_seedNow u_keptMine u_keptMen u_keptShut u_keptMoon u_keptTime u_hash c_readMany c_state c_readRows) := by
  have h : (f_X11_goGallery_b92 c_readMany c_state c_readRows 0 v1 v2 : Option (Int32 × Int32 × Int32 × A32)) = some z := h
  refine g_iconst (v := 0) X dX11_goGallery_91 (by decide) rfl ?_
  exact t_X11_goGallery_b92 X hret h
set_option maxHeartbeats 4000000 in
set_option maxRecDepth 100000 in
theorem c_X11_goGallery (l : Launch) (D : va_G) (cA : ClassId) (a_me a_page a_readRows a_readDraughts a_rows a_draughts a_gas a_heights a_steps a_menRows a_smoke a_lengths a_order a_bestOrder a_savedMen a_savedGas a_keptGas a_keptMenRows : Nat) (u_pageMany : Int32) (u_readShafts : Int32) (u_readKnot : Int32) (u_galleries : Int32) (u_minesRead : Int32) (u_moon : Int32) (u_time : Int32) (u_shut : Int32) (u_men : Int32) (u_done : Int32) (u_seedNow : Int32) (u_keptMine : Int32) (u_keptMen : Int32) (u_keptShut : Int32) (u_keptMoon : Int32) (u_keptTime : Int32) (u_hash : Int64) (c_readMany : Int32) (c_state : Int32) (c_readRows : A32) (v1 : Int32) (z : Int32 × Int32 × Int32 × A32) (h : f_X11_goGallery c_readMany c_state c_readRows v1 = some z) : CtI l yX11_goGallery wsX11_goGallery rm_X11_goGallery D cA [.ref a_me, .int v1] (w_X11_goGallery cA a_me a_page a_readRows a_readDraughts a_rows a_draughts a_gas a_heights a_steps a_menRows a_smoke a_lengths a_order a_bestOrder a_savedMen a_savedGas a_keptGas a_keptMenRows u_pageMany u_readShafts u_readKnot u_galleries u_minesRead u_moon u_time u_shut u_men u_done u_seedNow u_keptMine u_keptMen u_keptShut u_keptMoon u_keptTime u_hash c_readMany c_state c_readRows) z.1 (w_X11_goGallery cA a_me a_page a_readRows a_readDraughts a_rows a_draughts a_gas a_heights a_steps a_menRows a_smoke a_lengths a_order a_bestOrder a_savedMen a_savedGas a_keptGas a_keptMenRows u_pageMany u_readShafts u_readKnot u_galleries u_minesRead u_moon u_time u_shut u_men u_done u_seedNow u_keptMine u_keptMen u_keptShut u_keptMoon u_keptTime u_hash z.2.1 z.2.2.1 z.2.2.2) := by
  refine ct_I (maxL := 4) (ty := .boolean) (cc := cX11_goGallery) (by decide) rfl (Nat.le_of_ble_eq_true rfl) rfl (fun p e s m args below meth c A Q X hret => ?_)
  have h : (nam (4 * c_readMany) fun v2_1 => if c_state = 2 then if inB (v2_1 + 2) 40 then if inB (v2_1 + 3) 40 then nam (c_readMany + 1) fun w_7 => Option.bind (f_X11_in (Int32.toInt64 v1) 1 9) fun z_8 => if z_8 = 0 ∨ z_8 = 1 then some (z_8, w_7, 3, upd (upd c_readRows (Int32.toNatClampNeg (v2_1 + 2)) v1) (Int32.toNatClampNeg (v2_1 + 3)) 0) else none else none else none else Option.bind (f_X11_in (Int32.toInt64 v1) 0 6) fun z_3 => if z_3 = 0 then f_X11_goGallery_b91 c_readMany c_state c_readRows v1 v2_1 else if c_state = 0 then f_X11_goGallery_b87 c_readMany c_state c_readRows v1 v2_1 else if inB v2_1 40 then if v1 = (c_readRows v2_1.toNatClampNeg) then f_X11_goGallery_b91 c_readMany c_state c_readRows v1 v2_1 else f_X11_goGallery_b87 c_readMany c_state c_readRows v1 v2_1 else none : Option (Int32 × Int32 × Int32 × A32)) = some z := h
  refine g_iconst (v := 4) X dX11_goGallery_0 (by decide) rfl ?_
  refine g_aload_n X 0 rfl rfl dX11_goGallery_1 rfl ?_
  refine g_getf (C := RX11) (T := TX11) (N := 36) (v := .int c_readMany) X 0 rfl vc_X11 4 (by decide) iw_X11_goGallery_X11 fl_X11_goGallery_X11_4 rfl rfl dX11_goGallery_2 rfl ?_
  refine g_imul X dX11_goGallery_5 rfl ?_
  refine g_nami h (fun v2_1 h => ?_)
  refine g_istore_n (lv' := [(2, .int v2_1), (0, .ref a_me), (1, .int v1)]) X rfl (by decide) rfl dX11_goGallery_6 rfl ?_
  refine g_aload_n X 1 rfl rfl dX11_goGallery_7 rfl ?_
  refine g_getf (C := RX11) (T := TX11) (N := 36) (v := .int c_state) X 0 rfl vc_X11 7 (by decide) iw_X11_goGallery_X11 fl_X11_goGallery_X11_7 rfl rfl dX11_goGallery_8 rfl ?_
  refine g_iconst (v := 2) X dX11_goGallery_11 (by decide) rfl ?_
  refine g_icmp_ne (tgt := 58) X dX11_goGallery_12 (by decide) rfl h (fun c_2 h => ?_) (fun c_2 h => ?_)
  · refine g_iload_n X 2 rfl rfl dX11_goGallery_58 rfl ?_
    refine g_i2l X dX11_goGallery_59 rfl ?_
    refine g_lconst (v := 0) X dX11_goGallery_60 (by decide) rfl ?_
    refine g_ldc2 (v := 6) X (by decide +kernel) dX11_goGallery_61 rfl ?_
    obtain ⟨z_3, hz_3, h⟩ := bnd_s h
    refine g_callSI (rm := rm_X11_in) (As := [.long (Int32.toInt64 v1), .long 0, .long 6]) (r := z_3) (W0 := (w_X11_in cA )) (W1 := (w_X11_in cA )) (isC := []) (isR := [0, 1]) (perm := [0, 1]) (ws' := (w_X11_goGallery cA a_me a_page a_readRows a_readDraughts a_rows a_draughts a_gas a_heights a_steps a_menRows a_smoke a_lengths a_order a_bestOrder a_savedMen a_savedGas a_keptGas a_keptMenRows u_pageMany u_readShafts u_readKnot u_galleries u_minesRead u_moon u_time u_shut u_men u_done u_seedNow u_keptMine u_keptMen u_keptShut u_keptMoon u_keptTime u_hash c_readMany c_state c_readRows)) X (c_X11_in l D cA (Int32.toInt64 v1) 0 6 _ hz_3) gX11_goGallery_X11_in rfl rfl rfl hd_X11_in ⟨Nat.le_of_ble_eq_true rfl, Nat.le_of_ble_eq_true rfl⟩ rfl rfl (Nat.le_of_ble_eq_true rfl) rfl (by decide) rfl (by decide) (by decide) ⟨Nat.zero_le _, Nat.zero_le _⟩ rfl (by decide) dX11_goGallery_64 rfl ?_
    refine g_if_eq (tgt := 91) X dX11_goGallery_67 (by decide) rfl h (fun c_4 h => ?_) (fun c_4 h => ?_)
    · refine g_lvs [1, 2, 0] rfl ?_
      exact t_X11_goGallery_b91 X hret h
    · refine g_aload_n X 1 rfl rfl dX11_goGallery_70 rfl ?_
      refine g_getf (C := RX11) (T := TX11) (N := 36) (v := .int c_state) X 0 rfl vc_X11 7 (by decide) iw_X11_goGallery_X11 fl_X11_goGallery_X11_7 rfl rfl dX11_goGallery_71 rfl ?_
      refine g_if_eq (tgt := 87) X dX11_goGallery_74 (by decide) rfl h (fun c_5 h => ?_) (fun c_5 h => ?_)
      · refine g_lvs [1, 2, 0] rfl ?_
        exact t_X11_goGallery_b87 X hret h
      · refine g_iload_n X 2 rfl rfl dX11_goGallery_77 rfl ?_
        refine g_aload_n X 1 rfl rfl dX11_goGallery_78 rfl ?_
        refine g_getf (C := RX11) (T := TX11) (N := 36) (v := .ref a_readRows) X 0 rfl vc_X11 2 (by decide) iw_X11_goGallery_X11 fl_X11_goGallery_X11_2 rfl rfl dX11_goGallery_79 rfl ?_
        refine g_iload_n X 0 rfl rfl dX11_goGallery_82 rfl ?_
        refine g_iald X 1 rfl dX11_goGallery_83 rfl h (fun h => ?_)
        refine g_icmp_eq (tgt := 91) X dX11_goGallery_84 (by decide) rfl h (fun c_6 h => ?_) (fun c_6 h => ?_)
        · refine g_lvs [1, 2, 0] rfl ?_
          exact t_X11_goGallery_b91 X hret h
        · refine g_lvs [1, 2, 0] rfl ?_
          exact t_X11_goGallery_b87 X hret h
  · refine g_aload_n X 1 rfl rfl dX11_goGallery_15 rfl ?_
    refine g_getf (C := RX11) (T := TX11) (N := 36) (v := .ref a_readRows) X 0 rfl vc_X11 2 (by decide) iw_X11_goGallery_X11 fl_X11_goGallery_X11_2 rfl rfl dX11_goGallery_16 rfl ?_
    refine g_iload_n X 0 rfl rfl dX11_goGallery_19 rfl ?_
    refine g_iconst (v := 2) X dX11_goGallery_20 (by decide) rfl ?_
    refine g_iadd X dX11_goGallery_21 rfl ?_
    refine g_iload_n X 2 rfl rfl dX11_goGallery_22 rfl ?_
    refine g_iast (ws' := (w_X11_goGallery cA a_me a_page a_readRows a_readDraughts a_rows a_draughts a_gas a_heights a_steps a_menRows a_smoke a_lengths a_order a_bestOrder a_savedMen a_savedGas a_keptGas a_keptMenRows u_pageMany u_readShafts u_readKnot u_galleries u_minesRead u_moon u_time u_shut u_men u_done u_seedNow u_keptMine u_keptMen u_keptShut u_keptMoon u_keptTime u_hash c_readMany c_state (upd c_readRows (Int32.toNatClampNeg (v2_1 + 2)) v1))) X 1 rfl rfl dX11_goGallery_23 rfl h (fun h => ?_)
    refine g_aload_n X 1 rfl rfl dX11_goGallery_24 rfl ?_
    refine g_getf (C := RX11) (T := TX11) (N := 36) (v := .ref a_readRows) X 0 rfl vc_X11 2 (by decide) iw_X11_goGallery_X11 fl_X11_goGallery_X11_2 rfl rfl dX11_goGallery_25 rfl ?_
    refine g_iload_n X 0 rfl rfl dX11_goGallery_28 rfl ?_
    refine g_iconst (v := 3) X dX11_goGallery_29 (by decide) rfl ?_
    refine g_iadd X dX11_goGallery_30 rfl ?_
    refine g_iconst (v := 0) X dX11_goGallery_31 (by decide) rfl ?_
    refine g_iast (ws' := (w_X11_goGallery cA a_me a_page a_readRows a_readDraughts a_rows a_draughts a_gas a_heights a_steps a_menRows a_smoke a_lengths a_order a_bestOrder a_savedMen a_savedGas a_keptGas a_keptMenRows u_pageMany u_readShafts u_readKnot u_galleries u_minesRead u_moon u_time u_shut u_men u_done u_seedNow u_keptMine u_keptMen u_keptShut u_keptMoon u_keptTime u_hash c_readMany c_state (upd (upd c_readRows (Int32.toNatClampNeg (v2_1 + 2)) v1) (Int32.toNatClampNeg (v2_1 + 3)) 0))) X 1 rfl rfl dX11_goGallery_32 rfl h (fun h => ?_)
    refine g_aload_n X 1 rfl rfl dX11_goGallery_33 rfl ?_
    refine g_dup X dX11_goGallery_34 rfl rfl ?_
    refine g_getf (C := RX11) (T := TX11) (N := 36) (v := .int c_readMany) X 0 rfl vc_X11 4 (by decide) iw_X11_goGallery_X11 fl_X11_goGallery_X11_4 rfl rfl dX11_goGallery_35 rfl ?_
    refine g_iconst (v := 1) X dX11_goGallery_38 (by decide) rfl ?_
    refine g_iadd X dX11_goGallery_39 rfl ?_
    refine g_nami h (fun w_7 h => ?_)
    refine g_putf (C := RX11) (T := TX11) (N := 36) (ty := .int) (ws' := (w_X11_goGallery cA a_me a_page a_readRows a_readDraughts a_rows a_draughts a_gas a_heights a_steps a_menRows a_smoke a_lengths a_order a_bestOrder a_savedMen a_savedGas a_keptGas a_keptMenRows u_pageMany u_readShafts u_readKnot u_galleries u_minesRead u_moon u_time u_shut u_men u_done u_seedNow u_keptMine u_keptMen u_keptShut u_keptMoon u_keptTime u_hash w_7 c_state (upd (upd c_readRows (Int32.toNatClampNeg (v2_1 + 2)) v1) (Int32.toNatClampNeg (v2_1 + 3)) 0))) X 0 tyX11 tyX11_ok nmX11 rfl vc_X11 4 (by decide) iw_X11_goGallery_X11 fl_X11_goGallery_X11_4 rfl rfl pd_X11_4 rfl rfl (Nat.le_of_ble_eq_true rfl) rfl dX11_goGallery_40 rfl ?_
    refine g_aload_n X 1 rfl rfl dX11_goGallery_43 rfl ?_
    refine g_iconst (v := 3) X dX11_goGallery_44 (by decide) rfl ?_
    refine g_putf (C := RX11) (T := TX11) (N := 36) (ty := .int) (ws' := (w_X11_goGallery cA a_me a_page a_readRows a_readDraughts a_rows a_draughts a_gas a_heights a_steps a_menRows a_smoke a_lengths a_order a_bestOrder a_savedMen a_savedGas a_keptGas a_keptMenRows u_pageMany u_readShafts u_readKnot u_galleries u_minesRead u_moon u_time u_shut u_men u_done u_seedNow u_keptMine u_keptMen u_keptShut u_keptMoon u_keptTime u_hash w_7 3 (upd (upd c_readRows (Int32.toNatClampNeg (v2_1 + 2)) v1) (Int32.toNatClampNeg (v2_1 + 3)) 0))) X 0 tyX11 tyX11_ok nmX11 rfl vc_X11 7 (by decide) iw_X11_goGallery_X11 fl_X11_goGallery_X11_7 rfl rfl pd_X11_7 rfl rfl (Nat.le_of_ble_eq_true rfl) rfl dX11_goGallery_45 rfl ?_
    refine g_iload_n X 2 rfl rfl dX11_goGallery_48 rfl ?_
    refine g_i2l X dX11_goGallery_49 rfl ?_
    refine g_lconst (v := 1) X dX11_goGallery_50 (by decide) rfl ?_
    refine g_ldc2 (v := 9) X (by decide +kernel) dX11_goGallery_51 rfl ?_
    obtain ⟨z_8, hz_8, h⟩ := bnd_s h
    refine g_callSI (rm := rm_X11_in) (As := [.long (Int32.toInt64 v1), .long 1, .long 9]) (r := z_8) (W0 := (w_X11_in cA )) (W1 := (w_X11_in cA )) (isC := []) (isR := [0, 1]) (perm := [0, 1]) (ws' := (w_X11_goGallery cA a_me a_page a_readRows a_readDraughts a_rows a_draughts a_gas a_heights a_steps a_menRows a_smoke a_lengths a_order a_bestOrder a_savedMen a_savedGas a_keptGas a_keptMenRows u_pageMany u_readShafts u_readKnot u_galleries u_minesRead u_moon u_time u_shut u_men u_done u_seedNow u_keptMine u_keptMen u_keptShut u_keptMoon u_keptTime u_hash w_7 3 (upd (upd c_readRows (Int32.toNatClampNeg (v2_1 + 2)) v1) (Int32.toNatClampNeg (v2_1 + 3)) 0))) X (c_X11_in l D cA (Int32.toInt64 v1) 1 9 _ hz_8) gX11_goGallery_X11_in rfl rfl rfl hd_X11_in ⟨Nat.le_of_ble_eq_true rfl, Nat.le_of_ble_eq_true rfl⟩ rfl rfl (Nat.le_of_ble_eq_true rfl) rfl (by decide) rfl (by decide) (by decide) ⟨Nat.zero_le _, Nat.zero_le _⟩ rfl (by decide) dX11_goGallery_54 rfl ?_
    obtain ⟨c_9, h⟩ := ite_y h
    cases Option.some.inj h
    exact hret _ _ dX11_goGallery_57 (nar_z c_9)
abbrev rm_X11_go : Room := { frames := 2, cells := 0, slots := 0, locals := 48 }
abbrev w_X11_go (cA : ClassId) (a_me a_page a_readRows a_readDraughts a_rows a_draughts a_gas a_heights a_steps a_menRows a_smoke a_lengths a_order a_bestOrder a_savedMen a_savedGas a_keptGas a_keptMenRows : Nat) (u_pageMany : Int32) (u_galleries : Int32) (u_minesRead : Int32) (u_moon : Int32) (u_time : Int32) (u_shut : Int32) (u_men : Int32) (u_done : Int32) (u_seedNow : Int32) (u_keptMine : Int32) (u_keptMen : Int32) (u_keptShut : Int32) (u_keptMoon : Int32) (u_keptTime : Int32) (u_hash : Int64) (c_readMany : Int32) (c_readShafts : Int32) (c_readKnot : Int32) (c_state : Int32) (c_readRows : A32) (c_readDraughts : A32) : va_W := [(a_me, .inr (11, [.ref a_page, .int u_pageMany, .ref a_readRows, .ref a_readDraughts, .int c_readMany, .int c_readShafts, .int c_readKnot, .int c_state, .int u_galleries, .int u_minesRead, .int u_moon, .int u_time, .ref a_rows, .ref a_draughts, .int u_shut, .ref a_gas, .ref a_heights, .ref a_steps, .int u_men, .ref a_menRows, .ref a_smoke, .int u_done, .ref a_lengths, .ref a_order, .ref a_bestOrder, .int u_seedNow, .ref a_savedMen, .ref a_savedGas, .int u_keptMine, .int u_keptMen, .int u_keptShut, .int u_keptMoon, .int u_keptTime, .ref a_keptGas, .ref a_keptMenRows, .long u_hash])), (a_readRows, .inl (cA, 40, .inl c_readRows)), (a_readDraughts, .inl (cA, 7, .inl c_readDraughts))]
theorem hd_X11_go : yX11_go.cls ≠ "java/lang/invoke/MethodHandle" ∧ yX11_go.cls ≠ "java/lang/invoke/VarHandle" ∧ (parseMethodDescriptor yX11_go.desc).map (fun d => d.parameters.length) = some 1 := by decide +kernel
theorem iw_X11_go_X11 : ∀ w ∈ wsX110, w ∈ wsX11_go := fun w h => List.mem_cons_of_mem _ (List.mem_append_right _ h)
theorem fl_X11_go_X11_7 : Cond.fieldLink RX11 73 RX11 (TX11 7).2.1 (TX11 7).2.2.1 ∈ wsX11_go := List.mem_of_getElem? (i := 1) rfl
theorem fl_X11_go_X11_3 : Cond.fieldLink RX11 16 RX11 (TX11 3).2.1 (TX11 3).2.2.1 ∈ wsX11_go := List.mem_of_getElem? (i := 6) rfl
theorem fl_X11_go_X11_6 : Cond.fieldLink RX11 88 RX11 (TX11 6).2.1 (TX11 6).2.2.1 ∈ wsX11_go := List.mem_of_getElem? (i := 4) rfl
theorem fl_X11_go_X11_5 : Cond.fieldLink RX11 91 RX11 (TX11 5).2.1 (TX11 5).2.2.1 ∈ wsX11_go := List.mem_of_getElem? (i := 8) rfl
theorem fl_X11_go_X11_2 : Cond.fieldLink RX11 13 RX11 (TX11 2).2.1 (TX11 2).2.2.1 ∈ wsX11_go := List.mem_of_getElem? (i := 2) rfl
theorem fl_X11_go_X11_4 : Cond.fieldLink RX11 70 RX11 (TX11 4).2.1 (TX11 4).2.2.1 ∈ wsX11_go := List.mem_of_getElem? (i := 3) rfl
set_option maxHeartbeats 4000000 in
set_option maxRecDepth 100000 in
theorem t_X11_go_b108 {l : Launch} {D : va_G} {cA : ClassId} {p : Program} {e : Env} {s : State} {m : MethodId} {args : Array Value} {below : List Frame} {meth : Method} {c : Code} {A : Nat → Prop} {Q : State → Prop} {z : Int32 × Int32 × Int32 × Int32 × Int32 × A32 × A32} {a_me a_page a_readRows a_readDraughts a_rows a_draughts a_gas a_heights a_steps a_menRows a_smoke a_lengths a_order a_bestOrder a_savedMen a_savedGas a_keptGas a_keptMenRows : Nat} {u_pageMany : Int32} {u_galleries : Int32} {u_minesRead : Int32} {u_moon : Int32} {u_time : Int32} {u_shut : Int32} {u_men : Int32} {u_done : Int32} {u_seedNow : Int32} {u_keptMine : Int32} {u_keptMen : Int32} {u_keptShut : Int32} {u_keptMoon : Int32} {u_keptTime : Int32} {u_hash : Int64}  {c_readMany : Int32} {c_readShafts : Int32} {c_readKnot : Int32} {c_state : Int32} {c_readRows : A32} {c_readDraughts : A32}  (X : GX p s m args c cX11_go RX11 wsX11_go D cA A 4) (hret : RtI p l e rm_X11_go s m args below meth c cX11_go D A 4 0 0 Q .boolean z.1 (w_X11_go cA a_me a_page a_readRows a_readDraughts a_rows a_draughts a_gas a_heights a_steps a_menRows a_smoke a_lengths a_order a_bestOrder a_savedMen a_savedGas a_keptGas a_keptMenRows u_pageMany u_galleries u_minesRead u_moon u_time u_shut u_men u_done u_seedNow u_keptMine u_keptMen u_keptShut u_keptMoon u_keptTime u_hash z.2.1 z.2.2.1 z.2.2.2.1 z.2.2.2.2.1 z.2.2.2.2.2.1 z.2.2.2.2.2.2))  (h : f_X11_go_b108 c_readMany c_readShafts c_readKnot c_state c_readRows c_readDraughts = some z) : G p l e rm_X11_go s m args below meth c D A 4 0 0 Q 108 [] [] (w_X11_go cA a_me a_page a_readRows a_readDraughts a_rows a_draughts a_gas a_heights a_steps a_menRows a_smoke a_lengths a_order a_bestOrder a_savedMen a_savedGas a_keptGas a_keptMenRows u_pageMany u_galleries u_minesRead u_moon u_time u_shut u_men u_done u_seedNow u_keptMine u_keptMen u_keptShut u_keptMoon u_keptTime u_hash c_readMany c_readShafts c_readKnot c_state c_readRows c_readDraughts) := by
  have h : (some (1, c_readMany, c_readShafts, c_readKnot, c_state, c_readRows, c_readDraughts) : Option (Int32 × Int32 × Int32 × Int32 × Int32 × A32 × A32)) = some z := h
  refine g_iconst (v := 1) X dX11_go_108 (by decide) rfl ?_
  refine g_goto (tgt := 113) X dX11_go_109 (by decide) ?_
  cases Option.some.inj h
  exact hret _ _ dX11_go_113 (nar_z (Or.inr rfl))
set_option maxHeartbeats 4000000 in
set_option maxRecDepth 100000 in
theorem t_X11_go_b91 {l : Launch} {D : va_G} {cA : ClassId} {p : Program} {e : Env} {s : State} {m : MethodId} {args : Array Value} {below : List Frame} {meth : Method} {c : Code} {A : Nat → Prop} {Q : State → Prop} {z : Int32 × Int32 × Int32 × Int32 × Int32 × A32 × A32} {a_me a_page a_readRows a_readDraughts a_rows a_draughts a_gas a_heights a_steps a_menRows a_smoke a_lengths a_order a_bestOrder a_savedMen a_savedGas a_keptGas a_keptMenRows : Nat} {u_pageMany : Int32} {u_galleries : Int32} {u_minesRead : Int32} {u_moon : Int32} {u_time : Int32} {u_shut : Int32} {u_men : Int32} {u_done : Int32} {u_seedNow : Int32} {u_keptMine : Int32} {u_keptMen : Int32} {u_keptShut : Int32} {u_keptMoon : Int32} {u_keptTime : Int32} {u_hash : Int64}  {c_readMany : Int32} {c_readShafts : Int32} {c_readKnot : Int32} {c_state : Int32} {c_readRows : A32} {c_readDraughts : A32} {v1 : Int32} {v3 : Int32}  (X : GX p s m args c cX11_go RX11 wsX11_go D cA A 4) (hret : RtI p l e rm_X11_go s m args below meth c cX11_go D A 4 0 0 Q .boolean z.1 (w_X11_go cA a_me a_page a_readRows a_readDraughts a_rows a_draughts a_gas a_heights a_steps a_menRows a_smoke a_lengths a_order a_bestOrder a_savedMen a_savedGas a_keptGas a_keptMenRows u_pageMany u_galleries u_minesRead u_moon u_time u_shut u_men u_done u_seedNow u_keptMine u_keptMen u_keptShut u_keptMoon u_keptTime u_hash z.2.1 z.2.2.1 z.2.2.2.1 z.2.2.2.2.1 z.2.2.2.2.2.1 z.2.2.2.2.2.2))  (h : f_X11_go_b91 c_readMany c_readShafts c_readKnot c_state c_readRows c_readDraughts v1 v3 = some z) : G p l e rm_X11_go s m args below meth c D A 4 0 0 Q 91 [(1, .int v1), (3, .int v3)] [] (w_X11_go cA a_me a_page a_readRows a_readDraughts a_rows a_draughts a_gas a_heights a_steps a_menRows a_smoke a_lengths a_order a_bestOrder a_savedMen a_savedGas a_keptGas a_keptMenRows u_pageMany u_galleries u_minesRead u_moon u_time u_shut u_men u_done u_seedNow u_keptMine u_keptMen u_keptShut u_keptMoon u_keptTime u_hash c_readMany c_readShafts c_readKnot c_state c_readRows c_readDraughts) := by
  have h : (if v1 = 59 then f_X11_go_b108 c_readMany c_readShafts c_readKnot c_state c_readRows c_readDraughts else if v1 = 100 then if v3 = 3 then f_X11_go_b108 c_readMany c_readShafts c_readKnot c_state c_readRows c_readDraughts else some (0, c_readMany, c_readShafts, c_readKnot, c_state, c_readRows, c_readDraughts) else some (0, c_readMany, c_readShafts, c_readKnot, c_state, c_readRows, c_readDraughts) : Option (Int32 × Int32 × Int32 × Int32 × Int32 × A32 × A32)) = some z := h
  refine g_iload_n X 0 rfl rfl dX11_go_91 rfl ?_
  refine g_bipush (v := 59) X dX11_go_92 (by decide) rfl ?_
  refine g_icmp_eq (tgt := 108) X dX11_go_94 (by decide) rfl h (fun c_1 h => ?_) (fun c_1 h => ?_)
  · refine g_lvs [] rfl ?_
    exact t_X11_go_b108 X hret h
  · refine g_iload_n X 0 rfl rfl dX11_go_97 rfl ?_
    refine g_bipush (v := 100) X dX11_go_98 (by decide) rfl ?_
    refine g_icmp_ne (tgt := 112) X dX11_go_100 (by decide) rfl h (fun c_2 h => ?_) (fun c_2 h => ?_)
    · refine g_iconst (v := 0) X dX11_go_112 (by decide) rfl ?_
      cases Option.some.inj h
      exact hret _ _ dX11_go_113 (nar_z (Or.inl rfl))
    · refine g_iload_n X 1 rfl rfl dX11_go_103 rfl ?_
      refine g_iconst (v := 3) X dX11_go_104 (by decide) rfl ?_
      refine g_icmp_ne (tgt := 112) X dX11_go_105 (by decide) rfl h (fun c_3 h => ?_) (fun c_3 h => ?_)
      · refine g_iconst (v := 0) X dX11_go_112 (by decide) rfl ?_
        cases Option.some.inj h
        exact hret _ _ dX11_go_113 (nar_z (Or.inl rfl))
      · refine g_lvs [] rfl ?_
        exact t_X11_go_b108 X hret h
set_option maxHeartbeats 4000000 in
set_option maxRecDepth 100000 in
theorem t_X11_go_b76 {l : Launch} {D : va_G} {cA : ClassId} {p : Program} {e : Env} {s : State} {m : MethodId} {args : Array Value} {below : List Frame} {meth : Method} {c : Code} {A : Nat → Prop} {Q : State → Prop} {z : Int32 × Int32 × Int32 × Int32 × Int32 × A32 × A32} {a_me a_page a_readRows a_readDraughts a_rows a_draughts a_gas a_heights a_steps a_menRows a_smoke a_lengths a_order a_bestOrder a_savedMen a_savedGas a_keptGas a_keptMenRows : Nat} {u_pageMany : Int32} {u_galleries : Int32} {u_minesRead : Int32} {u_moon : Int32} {u_time : Int32} {u_shut : Int32} {u_men : Int32} {u_done : Int32} {u_seedNow : Int32} {u_keptMine : Int32} {u_keptMen : Int32} {u_keptShut : Int32} {u_keptMoon : Int32} {u_keptTime : Int32} {u_hash : Int64}  {c_readMany : Int32} {c_readShafts : Int32} {c_readKnot : Int32} {c_state : Int32} {c_readRows : A32} {c_readDraughts : A32} {v1 : Int32} {v3 : Int32}  (X : GX p s m args c cX11_go RX11 wsX11_go D cA A 4) (hret : RtI p l e rm_X11_go s m args below meth c cX11_go D A 4 0 0 Q .boolean z.1 (w_X11_go cA a_me a_page a_readRows a_readDraughts a_rows a_draughts a_gas a_heights a_steps a_menRows a_smoke a_lengths a_order a_bestOrder a_savedMen a_savedGas a_keptGas a_keptMenRows u_pageMany u_galleries u_minesRead u_moon u_time u_shut u_men u_done u_seedNow u_keptMine u_keptMen u_keptShut u_keptMoon u_keptTime u_hash z.2.1 z.2.2.1 z.2.2.2.1 z.2.2.2.2.1 z.2.2.2.2.2.1 z.2.2.2.2.2.2))  (h : f_X11_go_b76 c_readMany c_readShafts c_readKnot c_state c_readRows c_readDraughts v1 v3 = some z) : G p l e rm_X11_go s m args below meth c D A 4 0 0 Q 76 [(0, .ref a_me), (1, .int v1), (3, .int v3)] [] (w_X11_go cA a_me a_page a_readRows a_readDraughts a_rows a_draughts a_gas a_heights a_steps a_menRows a_smoke a_lengths a_order a_bestOrder a_savedMen a_savedGas a_keptGas a_keptMenRows u_pageMany u_galleries u_minesRead u_moon u_time u_shut u_men u_done u_seedNow u_keptMine u_keptMen u_keptShut u_keptMoon u_keptTime u_hash c_readMany c_readShafts c_readKnot c_state c_readRows c_readDraughts) := by
  have h : (if v1 = 44 then if c_readMany < 10 then f_X11_go_b108 c_readMany c_readShafts c_readKnot c_state c_readRows c_readDraughts else f_X11_go_b91 c_readMany c_readShafts c_readKnot c_state c_readRows c_readDraughts v1 v3 else f_X11_go_b91 c_readMany c_readShafts c_readKnot c_state c_readRows c_readDraughts v1 v3 : Option (Int32 × Int32 × Int32 × Int32 × Int32 × A32 × A32)) = some z := h
  refine g_iload_n X 1 rfl rfl dX11_go_76 rfl ?_
  refine g_bipush (v := 44) X dX11_go_77 (by decide) rfl ?_
  refine g_icmp_ne (tgt := 91) X dX11_go_79 (by decide) rfl h (fun c_1 h => ?_) (fun c_1 h => ?_)
  · refine g_lvs [1, 2] rfl ?_
    exact t_X11_go_b91 X hret h
  · refine g_aload_n X 0 rfl rfl dX11_go_82 rfl ?_
    refine g_getf (C := RX11) (T := TX11) (N := 36) (v := .int c_readMany) X 0 rfl vc_X11 4 (by decide) iw_X11_go_X11 fl_X11_go_X11_4 rfl rfl dX11_go_83 rfl ?_
    refine g_bipush (v := 10) X dX11_go_86 (by decide) rfl ?_
    refine g_icmp_lt (tgt := 108) X dX11_go_88 (by decide) rfl h (fun c_2 h => ?_) (fun c_2 h => ?_)
    · refine g_lvs [] rfl ?_
      exact t_X11_go_b108 X hret h
    · refine g_lvs [1, 2] rfl ?_
      exact t_X11_go_b91 X hret h
set_option maxHeartbeats 4000000 in
set_option maxRecDepth 100000 in
theorem t_X11_go_b48 {l : Launch} {D : va_G} {cA : ClassId} {p : Program} {e : Env} {s : State} {m : MethodId} {args : Array Value} {below : List Frame} {meth : Method} {c : Code} {A : Nat → Prop} {Q : State → Prop} {z : Int32 × Int32 × Int32 × Int32 × Int32 × A32 × A32} {a_me a_page a_readRows a_readDraughts a_rows a_draughts a_gas a_heights a_steps a_menRows a_smoke a_lengths a_order a_bestOrder a_savedMen a_savedGas a_keptGas a_keptMenRows : Nat} {u_pageMany : Int32} {u_galleries : Int32} {u_minesRead : Int32} {u_moon : Int32} {u_time : Int32} {u_shut : Int32} {u_men : Int32} {u_done : Int32} {u_seedNow : Int32} {u_keptMine : Int32} {u_keptMen : Int32} {u_keptShut : Int32} {u_keptMoon : Int32} {u_keptTime : Int32} {u_hash : Int64}  {c_readMany : Int32} {c_readShafts : Int32} {c_readKnot : Int32} {c_state : Int32} {c_readRows : A32} {c_readDraughts : A32} {t1 : Int32} {v1 : Int32} {v3 : Int32}  (X : GX p s m args c cX11_go RX11 wsX11_go D cA A 4) (hret : RtI p l e rm_X11_go s m args below meth c cX11_go D A 4 0 0 Q .boolean z.1 (w_X11_go cA a_me a_page a_readRows a_readDraughts a_rows a_draughts a_gas a_heights a_steps a_menRows a_smoke a_lengths a_order a_bestOrder a_savedMen a_savedGas a_keptGas a_keptMenRows u_pageMany u_galleries u_minesRead u_moon u_time u_shut u_men u_done u_seedNow u_keptMine u_keptMen u_keptShut u_keptMoon u_keptTime u_hash z.2.1 z.2.2.1 z.2.2.2.1 z.2.2.2.2.1 z.2.2.2.2.2.1 z.2.2.2.2.2.2))  (h : f_X11_go_b48 c_readMany c_readShafts c_readKnot c_state c_readRows c_readDraughts t1 v1 v3 = some z) : G p l e rm_X11_go s m args below meth c D A 4 0 0 Q 48 [(0, .ref a_me), (1, .int v1), (3, .int v3)] [.int t1, .ref a_me] (w_X11_go cA a_me a_page a_readRows a_readDraughts a_rows a_draughts a_gas a_heights a_steps a_menRows a_smoke a_lengths a_order a_bestOrder a_savedMen a_savedGas a_keptGas a_keptMenRows u_pageMany u_galleries u_minesRead u_moon u_time u_shut u_men u_done u_seedNow u_keptMine u_keptMen u_keptShut u_keptMoon u_keptTime u_hash c_readMany c_readShafts c_readKnot c_state c_readRows c_readDraughts) := by
  have h : (if v1 = 100 then if v3 = 3 then if inB ((4 * c_readMany) - 1) 40 then f_X11_go_b76 c_readMany c_readShafts c_readKnot t1 (upd c_readRows (Int32.toNatClampNeg ((4 * c_readMany) - 1)) 1) c_readDraughts v1 v3 else none else f_X11_go_b76 c_readMany c_readShafts c_readKnot t1 c_readRows c_readDraughts v1 v3 else f_X11_go_b76 c_readMany c_readShafts c_readKnot t1 c_readRows c_readDraughts v1 v3 : Option (Int32 × Int32 × Int32 × Int32 × Int32 × A32 × A32)) = some z := h
  refine g_putf (C := RX11) (T := TX11) (N := 36) (ty := .int) (ws' := (w_X11_go cA a_me a_page a_readRows a_readDraughts a_rows a_draughts a_gas a_heights a_steps a_menRows a_smoke a_lengths a_order a_bestOrder a_savedMen a_savedGas a_keptGas a_keptMenRows u_pageMany u_galleries u_minesRead u_moon u_time u_shut u_men u_done u_seedNow u_keptMine u_keptMen u_keptShut u_keptMoon u_keptTime u_hash c_readMany c_readShafts c_readKnot t1 c_readRows c_readDraughts)) X 0 tyX11 tyX11_ok nmX11 rfl vc_X11 7 (by decide) iw_X11_go_X11 fl_X11_go_X11_7 rfl rfl pd_X11_7 rfl rfl (Nat.le_of_ble_eq_true rfl) rfl dX11_go_48 rfl ?_
  refine g_iload_n X 1 rfl rfl dX11_go_51 rfl ?_
  refine g_bipush (v := 100) X dX11_go_52 (by decide) rfl ?_
  refine g_icmp_ne (tgt := 76) X dX11_go_54 (by decide) rfl h (fun c_1 h => ?_) (fun c_1 h => ?_)
  · exact t_X11_go_b76 X hret h
  · refine g_iload_n X 2 rfl rfl dX11_go_57 rfl ?_
    refine g_iconst (v := 3) X dX11_go_58 (by decide) rfl ?_
    refine g_icmp_ne (tgt := 76) X dX11_go_59 (by decide) rfl h (fun c_2 h => ?_) (fun c_2 h => ?_)
    · exact t_X11_go_b76 X hret h
    · refine g_aload_n X 0 rfl rfl dX11_go_62 rfl ?_
      refine g_getf (C := RX11) (T := TX11) (N := 36) (v := .ref a_readRows) X 0 rfl vc_X11 2 (by decide) iw_X11_go_X11 fl_X11_go_X11_2 rfl rfl dX11_go_63 rfl ?_
      refine g_iconst (v := 4) X dX11_go_66 (by decide) rfl ?_
      refine g_aload_n X 0 rfl rfl dX11_go_67 rfl ?_
      refine g_getf (C := RX11) (T := TX11) (N := 36) (v := .int c_readMany) X 0 rfl vc_X11 4 (by decide) iw_X11_go_X11 fl_X11_go_X11_4 rfl rfl dX11_go_68 rfl ?_
      refine g_imul X dX11_go_71 rfl ?_
      refine g_iconst (v := 1) X dX11_go_72 (by decide) rfl ?_
      refine g_isub X dX11_go_73 rfl ?_
      refine g_iconst (v := 1) X dX11_go_74 (by decide) rfl ?_
      refine g_iast (ws' := (w_X11_go cA a_me a_page a_readRows a_readDraughts a_rows a_draughts a_gas a_heights a_steps a_menRows a_smoke a_lengths a_order a_bestOrder a_savedMen a_savedGas a_keptGas a_keptMenRows u_pageMany u_galleries u_minesRead u_moon u_time u_shut u_men u_done u_seedNow u_keptMine u_keptMen u_keptShut u_keptMoon u_keptTime u_hash c_readMany c_readShafts c_readKnot t1 (upd c_readRows (Int32.toNatClampNeg ((4 * c_readMany) - 1)) 1) c_readDraughts)) X 1 rfl rfl dX11_go_75 rfl h (fun h => ?_)
      exact t_X11_go_b76 X hret h
set_option maxHeartbeats 4000000 in
set_option maxRecDepth 100000 in
theorem t_X11_go_b190 {l : Launch} {D : va_G} {cA : ClassId} {p : Program} {e : Env} {s : State} {m : MethodId} {args : Array Value} {below : List Frame} {meth : Method} {c : Code} {A : Nat → Prop} {Q : State → Prop} {z : Int32 × Int32 × Int32 × Int32 × Int32 × A32 × A32} {a_me a_page a_readRows a_readDraughts a_rows a_draughts a_gas a_heights a_steps a_menRows a_smoke a_lengths a_order a_bestOrder a_savedMen a_savedGas a_keptGas a_keptMenRows : Nat} {u_pageMany : Int32} {u_galleries : Int32} {u_minesRead : Int32} {u_moon : Int32} {u_time : Int32} {u_shut : Int32} {u_men : Int32} {u_done : Int32} {u_seedNow : Int32} {u_keptMine : Int32} {u_keptMen : Int32} {u_keptShut : Int32} {u_keptMoon : Int32} {u_keptTime : Int32} {u_hash : Int64}  {c_readMany : Int32} {c_readShafts : Int32} {c_readKnot : Int32} {c_state : Int32} {c_readRows : A32} {c_readDraughts : A32} {v2 : Int32}  (X : GX p s m args c cX11_go RX11 wsX11_go D cA A 4) (hret : RtI p l e rm_X11_go s m args below meth c cX11_go D A 4 0 0 Q .boolean z.1 (w_X11_go cA a_me a_page a_readRows a_readDraughts a_rows a_draughts a_gas a_heights a_steps a_menRows a_smoke a_lengths a_order a_bestOrder a_savedMen a_savedGas a_keptGas a_keptMenRows u_pageMany u_galleries u_minesRead u_moon u_time u_shut u_men u_done u_seedNow u_keptMine u_keptMen u_keptShut u_keptMoon u_keptTime u_hash z.2.1 z.2.2.1 z.2.2.2.1 z.2.2.2.2.1 z.2.2.2.2.2.1 z.2.2.2.2.2.2))  (h : f_X11_go_b190 c_readMany c_readShafts c_readKnot c_state c_readRows c_readDraughts v2 = some z) : G p l e rm_X11_go s m args below meth c D A 4 0 0 Q 190 [(0, .ref a_me), (2, .int v2)] [] (w_X11_go cA a_me a_page a_readRows a_readDraughts a_rows a_draughts a_gas a_heights a_steps a_menRows a_smoke a_lengths a_order a_bestOrder a_savedMen a_savedGas a_keptGas a_keptMenRows u_pageMany u_galleries u_minesRead u_moon u_time u_shut u_men u_done u_seedNow u_keptMine u_keptMen u_keptShut u_keptMoon u_keptTime u_hash c_readMany c_readShafts c_readKnot c_state c_readRows c_readDraughts) := by
  have h : (Option.bind (f_X11_in (Int32.toInt64 v2) 0 9) fun z_1 => if z_1 = 0 ∨ z_1 = 1 then some (z_1, c_readMany, c_readShafts, c_readKnot, 5, c_readRows, c_readDraughts) else none : Option (Int32 × Int32 × Int32 × Int32 × Int32 × A32 × A32)) = some z := h
  refine g_aload_n X 0 rfl rfl dX11_go_190 rfl ?_
  refine g_iconst (v := 5) X dX11_go_191 (by decide) rfl ?_
  refine g_putf (C := RX11) (T := TX11) (N := 36) (ty := .int) (ws' := (w_X11_go cA a_me a_page a_readRows a_readDraughts a_rows a_draughts a_gas a_heights a_steps a_menRows a_smoke a_lengths a_order a_bestOrder a_savedMen a_savedGas a_keptGas a_keptMenRows u_pageMany u_galleries u_minesRead u_moon u_time u_shut u_men u_done u_seedNow u_keptMine u_keptMen u_keptShut u_keptMoon u_keptTime u_hash c_readMany c_readShafts c_readKnot 5 c_readRows c_readDraughts)) X 0 tyX11 tyX11_ok nmX11 rfl vc_X11 7 (by decide) iw_X11_go_X11 fl_X11_go_X11_7 rfl rfl pd_X11_7 rfl rfl (Nat.le_of_ble_eq_true rfl) rfl dX11_go_192 rfl ?_
  refine g_iload_n X 1 rfl rfl dX11_go_195 rfl ?_
  refine g_i2l X dX11_go_196 rfl ?_
  refine g_lconst (v := 0) X dX11_go_197 (by decide) rfl ?_
  refine g_ldc2 (v := 9) X (by decide +kernel) dX11_go_198 rfl ?_
  obtain ⟨z_1, hz_1, h⟩ := bnd_s h
  refine g_callSI (rm := rm_X11_in) (As := [.long (Int32.toInt64 v2), .long 0, .long 9]) (r := z_1) (W0 := (w_X11_in cA )) (W1 := (w_X11_in cA )) (isC := []) (isR := [0, 1, 2]) (perm := [0, 1, 2]) (ws' := (w_X11_go cA a_me a_page a_readRows a_readDraughts a_rows a_draughts a_gas a_heights a_steps a_menRows a_smoke a_lengths a_order a_bestOrder a_savedMen a_savedGas a_keptGas a_keptMenRows u_pageMany u_galleries u_minesRead u_moon u_time u_shut u_men u_done u_seedNow u_keptMine u_keptMen u_keptShut u_keptMoon u_keptTime u_hash c_readMany c_readShafts c_readKnot 5 c_readRows c_readDraughts)) X (c_X11_in l D cA (Int32.toInt64 v2) 0 9 _ hz_1) gX11_go_X11_in rfl rfl rfl hd_X11_in ⟨Nat.le_of_ble_eq_true rfl, Nat.le_of_ble_eq_true rfl⟩ rfl rfl (Nat.le_of_ble_eq_true rfl) rfl (by decide) rfl (by decide) (by decide) ⟨Nat.zero_le _, Nat.zero_le _⟩ rfl (by decide) dX11_go_201 rfl ?_
  obtain ⟨c_2, h⟩ := ite_y h
  cases Option.some.inj h
  exact hret _ _ dX11_go_204 (nar_z c_2)
set_option maxHeartbeats 4000000 in
set_option maxRecDepth 100000 in
theorem c_X11_go (l : Launch) (D : va_G) (cA : ClassId) (a_me a_page a_readRows a_readDraughts a_rows a_draughts a_gas a_heights a_steps a_menRows a_smoke a_lengths a_order a_bestOrder a_savedMen a_savedGas a_keptGas a_keptMenRows : Nat) (u_pageMany : Int32) (u_galleries : Int32) (u_minesRead : Int32) (u_moon : Int32) (u_time : Int32) (u_shut : Int32) (u_men : Int32) (u_done : Int32) (u_seedNow : Int32) (u_keptMine : Int32) (u_keptMen : Int32) (u_keptShut : Int32) (u_keptMoon : Int32) (u_keptTime : Int32) (u_hash : Int64) (c_readMany : Int32) (c_readShafts : Int32) (c_readKnot : Int32) (c_state : Int32) (c_readRows : A32) (c_readDraughts : A32) (v1 : Int32) (z : Int32 × Int32 × Int32 × Int32 × Int32 × A32 × A32) (h : f_X11_go c_readMany c_readShafts c_readKnot c_state c_readRows c_readDraughts v1 = some z) : CtI l yX11_go wsX11_go rm_X11_go D cA [.ref a_me, .int v1] (w_X11_go cA a_me a_page a_readRows a_readDraughts a_rows a_draughts a_gas a_heights a_steps a_menRows a_smoke a_lengths a_order a_bestOrder a_savedMen a_savedGas a_keptGas a_keptMenRows u_pageMany u_galleries u_minesRead u_moon u_time u_shut u_men u_done u_seedNow u_keptMine u_keptMen u_keptShut u_keptMoon u_keptTime u_hash c_readMany c_readShafts c_readKnot c_state c_readRows c_readDraughts) z.1 (w_X11_go cA a_me a_page a_readRows a_readDraughts a_rows a_draughts a_gas a_heights a_steps a_menRows a_smoke a_lengths a_order a_bestOrder a_savedMen a_savedGas a_keptGas a_keptMenRows u_pageMany u_galleries u_minesRead u_moon u_time u_shut u_men u_done u_seedNow u_keptMine u_keptMen u_keptShut u_keptMoon u_keptTime u_hash z.2.1 z.2.2.1 z.2.2.2.1 z.2.2.2.2.1 z.2.2.2.2.2.1 z.2.2.2.2.2.2) := by
  refine ct_I (maxL := 4) (ty := .boolean) (cc := cX11_go) (by decide) rfl (Nat.le_of_ble_eq_true rfl) rfl (fun p e s m args below meth c A Q X hret => ?_)
  have h : (nam (v1 - 48) fun v2_1 => if 3 ≤ c_state then if 5 ≤ c_state then if c_state = 5 then Option.bind (f_X11_in (Int32.toInt64 v2_1) 0 6) fun z_8 => if z_8 = 0 then some (0, c_readMany, c_readShafts, v2_1, 6, c_readRows, c_readDraughts) else if inB v2_1 7 then if (c_readDraughts v2_1.toNatClampNeg) = (-1) then some (1, c_readMany, c_readShafts, v2_1, 6, c_readRows, c_readDraughts) else some (0, c_readMany, c_readShafts, v2_1, 6, c_readRows, c_readDraughts) else none else Option.bind (f_X11_in (Int32.toInt64 v2_1) 0 9) fun z_5 => if z_5 = 0 then f_X11_go_b190 c_readMany c_readShafts c_readKnot c_state c_readRows c_readDraughts v2_1 else if inB c_readKnot 7 then nam (c_readShafts + 1) fun w_7 => f_X11_go_b190 c_readMany w_7 c_readKnot c_state c_readRows (upd c_readDraughts (Int32.toNatClampNeg c_readKnot) v2_1) v2_1 else none else if v1 = 44 then f_X11_go_b48 c_readMany c_readShafts c_readKnot c_state c_readRows c_readDraughts 0 v1 c_state else if v1 = 59 then f_X11_go_b48 c_readMany c_readShafts c_readKnot c_state c_readRows c_readDraughts 5 v1 c_state else f_X11_go_b48 c_readMany c_readShafts c_readKnot c_state c_readRows c_readDraughts 4 v1 c_state else Option.bind (f_X11_goGallery c_readMany c_state c_readRows v2_1) fun z_13 => if z_13.1 = 0 ∨ z_13.1 = 1 then some (z_13.1, z_13.2.1, c_readShafts, c_readKnot, z_13.2.2.1, z_13.2.2.2, c_readDraughts) else none : Option (Int32 × Int32 × Int32 × Int32 × Int32 × A32 × A32)) = some z := h
  refine g_iload_n X 1 rfl rfl dX11_go_0 rfl ?_
  refine g_bipush (v := 48) X dX11_go_1 (by decide) rfl ?_
  refine g_isub X dX11_go_3 rfl ?_
  refine g_nami h (fun v2_1 h => ?_)
  refine g_istore_n (lv' := [(2, .int v2_1), (0, .ref a_me), (1, .int v1)]) X rfl (by decide) rfl dX11_go_4 rfl ?_
  refine g_aload_n X 1 rfl rfl dX11_go_5 rfl ?_
  refine g_getf (C := RX11) (T := TX11) (N := 36) (v := .int c_state) X 0 rfl vc_X11 7 (by decide) iw_X11_go_X11 fl_X11_go_X11_7 rfl rfl dX11_go_6 rfl ?_
  refine g_istore_n (lv' := [(3, .int c_state), (2, .int v2_1), (0, .ref a_me), (1, .int v1)]) X rfl (by decide) rfl dX11_go_9 rfl ?_
  refine g_iload_n X 0 rfl rfl dX11_go_10 rfl ?_
  refine g_iconst (v := 3) X dX11_go_11 (by decide) rfl ?_
  refine g_icmp_ge (tgt := 21) X dX11_go_12 (by decide) rfl h (fun c_2 h => ?_) (fun c_2 h => ?_)
  · refine g_iload_n X 0 rfl rfl dX11_go_21 rfl ?_
    refine g_iconst (v := 5) X dX11_go_22 (by decide) rfl ?_
    refine g_icmp_ge (tgt := 114) X dX11_go_23 (by decide) rfl h (fun c_3 h => ?_) (fun c_3 h => ?_)
    · refine g_iload_n X 0 rfl rfl dX11_go_114 rfl ?_
      refine g_iconst (v := 5) X dX11_go_115 (by decide) rfl ?_
      refine g_icmp_ne (tgt := 158) X dX11_go_116 (by decide) rfl h (fun c_4 h => ?_) (fun c_4 h => ?_)
      · refine g_iload_n X 1 rfl rfl dX11_go_158 rfl ?_
        refine g_i2l X dX11_go_159 rfl ?_
        refine g_lconst (v := 0) X dX11_go_160 (by decide) rfl ?_
        refine g_ldc2 (v := 9) X (by decide +kernel) dX11_go_161 rfl ?_
        obtain ⟨z_5, hz_5, h⟩ := bnd_s h
        refine g_callSI (rm := rm_X11_in) (As := [.long (Int32.toInt64 v2_1), .long 0, .long 9]) (r := z_5) (W0 := (w_X11_in cA )) (W1 := (w_X11_in cA )) (isC := []) (isR := [0, 1, 2]) (perm := [0, 1, 2]) (ws' := (w_X11_go cA a_me a_page a_readRows a_readDraughts a_rows a_draughts a_gas a_heights a_steps a_menRows a_smoke a_lengths a_order a_bestOrder a_savedMen a_savedGas a_keptGas a_keptMenRows u_pageMany u_galleries u_minesRead u_moon u_time u_shut u_men u_done u_seedNow u_keptMine u_keptMen u_keptShut u_keptMoon u_keptTime u_hash c_readMany c_readShafts c_readKnot c_state c_readRows c_readDraughts)) X (c_X11_in l D cA (Int32.toInt64 v2_1) 0 9 _ hz_5) gX11_go_X11_in rfl rfl rfl hd_X11_in ⟨Nat.le_of_ble_eq_true rfl, Nat.le_of_ble_eq_true rfl⟩ rfl rfl (Nat.le_of_ble_eq_true rfl) rfl (by decide) rfl (by decide) (by decide) ⟨Nat.zero_le _, Nat.zero_le _⟩ rfl (by decide) dX11_go_164 rfl ?_
        refine g_if_eq (tgt := 190) X dX11_go_167 (by decide) rfl h (fun c_6 h => ?_) (fun c_6 h => ?_)
        · refine g_lvs [2, 1] rfl ?_
          exact t_X11_go_b190 X hret h
        · refine g_aload_n X 2 rfl rfl dX11_go_170 rfl ?_
          refine g_getf (C := RX11) (T := TX11) (N := 36) (v := .ref a_readDraughts) X 0 rfl vc_X11 3 (by decide) iw_X11_go_X11 fl_X11_go_X11_3 rfl rfl dX11_go_171 rfl ?_
          refine g_aload_n X 2 rfl rfl dX11_go_174 rfl ?_
          refine g_getf (C := RX11) (T := TX11) (N := 36) (v := .int c_readKnot) X 0 rfl vc_X11 6 (by decide) iw_X11_go_X11 fl_X11_go_X11_6 rfl rfl dX11_go_175 rfl ?_
          refine g_iload_n X 1 rfl rfl dX11_go_178 rfl ?_
          refine g_iast (ws' := (w_X11_go cA a_me a_page a_readRows a_readDraughts a_rows a_draughts a_gas a_heights a_steps a_menRows a_smoke a_lengths a_order a_bestOrder a_savedMen a_savedGas a_keptGas a_keptMenRows u_pageMany u_galleries u_minesRead u_moon u_time u_shut u_men u_done u_seedNow u_keptMine u_keptMen u_keptShut u_keptMoon u_keptTime u_hash c_readMany c_readShafts c_readKnot c_state c_readRows (upd c_readDraughts (Int32.toNatClampNeg c_readKnot) v2_1))) X 2 rfl rfl dX11_go_179 rfl h (fun h => ?_)
          refine g_aload_n X 2 rfl rfl dX11_go_180 rfl ?_
          refine g_dup X dX11_go_181 rfl rfl ?_
          refine g_getf (C := RX11) (T := TX11) (N := 36) (v := .int c_readShafts) X 0 rfl vc_X11 5 (by decide) iw_X11_go_X11 fl_X11_go_X11_5 rfl rfl dX11_go_182 rfl ?_
          refine g_iconst (v := 1) X dX11_go_185 (by decide) rfl ?_
          refine g_iadd X dX11_go_186 rfl ?_
          refine g_nami h (fun w_7 h => ?_)
          refine g_putf (C := RX11) (T := TX11) (N := 36) (ty := .int) (ws' := (w_X11_go cA a_me a_page a_readRows a_readDraughts a_rows a_draughts a_gas a_heights a_steps a_menRows a_smoke a_lengths a_order a_bestOrder a_savedMen a_savedGas a_keptGas a_keptMenRows u_pageMany u_galleries u_minesRead u_moon u_time u_shut u_men u_done u_seedNow u_keptMine u_keptMen u_keptShut u_keptMoon u_keptTime u_hash c_readMany w_7 c_readKnot c_state c_readRows (upd c_readDraughts (Int32.toNatClampNeg c_readKnot) v2_1))) X 0 tyX11 tyX11_ok nmX11 rfl vc_X11 5 (by decide) iw_X11_go_X11 fl_X11_go_X11_5 rfl rfl pd_X11_5 rfl rfl (Nat.le_of_ble_eq_true rfl) rfl dX11_go_187 rfl ?_
          refine g_lvs [2, 1] rfl ?_
          exact t_X11_go_b190 X hret h
      · refine g_aload_n X 2 rfl rfl dX11_go_119 rfl ?_
        refine g_iload_n X 1 rfl rfl dX11_go_120 rfl ?_
        refine g_putf (C := RX11) (T := TX11) (N := 36) (ty := .int) (ws' := (w_X11_go cA a_me a_page a_readRows a_readDraughts a_rows a_draughts a_gas a_heights a_steps a_menRows a_smoke a_lengths a_order a_bestOrder a_savedMen a_savedGas a_keptGas a_keptMenRows u_pageMany u_galleries u_minesRead u_moon u_time u_shut u_men u_done u_seedNow u_keptMine u_keptMen u_keptShut u_keptMoon u_keptTime u_hash c_readMany c_readShafts v2_1 c_state c_readRows c_readDraughts)) X 0 tyX11 tyX11_ok nmX11 rfl vc_X11 6 (by decide) iw_X11_go_X11 fl_X11_go_X11_6 rfl rfl pd_X11_6 rfl rfl (Nat.le_of_ble_eq_true rfl) rfl dX11_go_121 rfl ?_
        refine g_aload_n X 2 rfl rfl dX11_go_124 rfl ?_
        refine g_bipush (v := 6) X dX11_go_125 (by decide) rfl ?_
        refine g_putf (C := RX11) (T := TX11) (N := 36) (ty := .int) (ws' := (w_X11_go cA a_me a_page a_readRows a_readDraughts a_rows a_draughts a_gas a_heights a_steps a_menRows a_smoke a_lengths a_order a_bestOrder a_savedMen a_savedGas a_keptGas a_keptMenRows u_pageMany u_galleries u_minesRead u_moon u_time u_shut u_men u_done u_seedNow u_keptMine u_keptMen u_keptShut u_keptMoon u_keptTime u_hash c_readMany c_readShafts v2_1 6 c_readRows c_readDraughts)) X 0 tyX11 tyX11_ok nmX11 rfl vc_X11 7 (by decide) iw_X11_go_X11 fl_X11_go_X11_7 rfl rfl pd_X11_7 rfl rfl (Nat.le_of_ble_eq_true rfl) rfl dX11_go_127 rfl ?_
        refine g_iload_n X 1 rfl rfl dX11_go_130 rfl ?_
        refine g_i2l X dX11_go_131 rfl ?_
        refine g_lconst (v := 0) X dX11_go_132 (by decide) rfl ?_
        refine g_ldc2 (v := 6) X (by decide +kernel) dX11_go_133 rfl ?_
        obtain ⟨z_8, hz_8, h⟩ := bnd_s h
        refine g_callSI (rm := rm_X11_in) (As := [.long (Int32.toInt64 v2_1), .long 0, .long 6]) (r := z_8) (W0 := (w_X11_in cA )) (W1 := (w_X11_in cA )) (isC := []) (isR := [0, 1, 2]) (perm := [0, 1, 2]) (ws' := (w_X11_go cA a_me a_page a_readRows a_readDraughts a_rows a_draughts a_gas a_heights a_steps a_menRows a_smoke a_lengths a_order a_bestOrder a_savedMen a_savedGas a_keptGas a_keptMenRows u_pageMany u_galleries u_minesRead u_moon u_time u_shut u_men u_done u_seedNow u_keptMine u_keptMen u_keptShut u_keptMoon u_keptTime u_hash c_readMany c_readShafts v2_1 6 c_readRows c_readDraughts)) X (c_X11_in l D cA (Int32.toInt64 v2_1) 0 6 _ hz_8) gX11_go_X11_in rfl rfl rfl hd_X11_in ⟨Nat.le_of_ble_eq_true rfl, Nat.le_of_ble_eq_true rfl⟩ rfl rfl (Nat.le_of_ble_eq_true rfl) rfl (by decide) rfl (by decide) (by decide) ⟨Nat.zero_le _, Nat.zero_le _⟩ rfl (by decide) dX11_go_136 rfl ?_
        refine g_if_eq (tgt := 156) X dX11_go_139 (by decide) rfl h (fun c_9 h => ?_) (fun c_9 h => ?_)
        · refine g_iconst (v := 0) X dX11_go_156 (by decide) rfl ?_
          cases Option.some.inj h
          exact hret _ _ dX11_go_157 (nar_z (Or.inl rfl))
        · refine g_aload_n X 2 rfl rfl dX11_go_142 rfl ?_
          refine g_getf (C := RX11) (T := TX11) (N := 36) (v := .ref a_readDraughts) X 0 rfl vc_X11 3 (by decide) iw_X11_go_X11 fl_X11_go_X11_3 rfl rfl dX11_go_143 rfl ?_
          refine g_iload_n X 1 rfl rfl dX11_go_146 rfl ?_
          refine g_iald X 2 rfl dX11_go_147 rfl h (fun h => ?_)
          refine g_iconst (v := (-1)) X dX11_go_148 (by decide) rfl ?_
          refine g_icmp_ne (tgt := 156) X dX11_go_149 (by decide) rfl h (fun c_10 h => ?_) (fun c_10 h => ?_)
          · refine g_iconst (v := 0) X dX11_go_156 (by decide) rfl ?_
            cases Option.some.inj h
            exact hret _ _ dX11_go_157 (nar_z (Or.inl rfl))
          · refine g_iconst (v := 1) X dX11_go_152 (by decide) rfl ?_
            refine g_goto (tgt := 157) X dX11_go_153 (by decide) ?_
            cases Option.some.inj h
            exact hret _ _ dX11_go_157 (nar_z (Or.inr rfl))
    · refine g_aload_n X 2 rfl rfl dX11_go_26 rfl ?_
      refine g_iload_n X 3 rfl rfl dX11_go_27 rfl ?_
      refine g_bipush (v := 44) X dX11_go_28 (by decide) rfl ?_
      refine g_icmp_ne (tgt := 37) X dX11_go_30 (by decide) rfl h (fun c_11 h => ?_) (fun c_11 h => ?_)
      · refine g_iload_n X 3 rfl rfl dX11_go_37 rfl ?_
        refine g_bipush (v := 59) X dX11_go_38 (by decide) rfl ?_
        refine g_icmp_ne (tgt := 47) X dX11_go_40 (by decide) rfl h (fun c_12 h => ?_) (fun c_12 h => ?_)
        · refine g_iconst (v := 4) X dX11_go_47 (by decide) rfl ?_
          refine g_lvs [2, 3, 0] rfl ?_
          exact t_X11_go_b48 X hret h
        · refine g_iconst (v := 5) X dX11_go_43 (by decide) rfl ?_
          refine g_goto (tgt := 48) X dX11_go_44 (by decide) ?_
          refine g_lvs [2, 3, 0] rfl ?_
          exact t_X11_go_b48 X hret h
      · refine g_iconst (v := 0) X dX11_go_33 (by decide) rfl ?_
        refine g_goto (tgt := 48) X dX11_go_34 (by decide) ?_
        refine g_lvs [2, 3, 0] rfl ?_
        exact t_X11_go_b48 X hret h
  · refine g_aload_n X 2 rfl rfl dX11_go_15 rfl ?_
    refine g_iload_n X 1 rfl rfl dX11_go_16 rfl ?_
    obtain ⟨z_13, hz_13, h⟩ := bnd_s h
    refine g_callVI (rm := rm_X11_goGallery) (As := [.int v2_1]) (r := z_13.1) (W0 := (w_X11_goGallery cA a_me a_page a_readRows a_readDraughts a_rows a_draughts a_gas a_heights a_steps a_menRows a_smoke a_lengths a_order a_bestOrder a_savedMen a_savedGas a_keptGas a_keptMenRows u_pageMany c_readShafts c_readKnot u_galleries u_minesRead u_moon u_time u_shut u_men u_done u_seedNow u_keptMine u_keptMen u_keptShut u_keptMoon u_keptTime u_hash c_readMany c_state c_readRows)) (W1 := (w_X11_goGallery cA a_me a_page a_readRows a_readDraughts a_rows a_draughts a_gas a_heights a_steps a_menRows a_smoke a_lengths a_order a_bestOrder a_savedMen a_savedGas a_keptGas a_keptMenRows u_pageMany c_readShafts c_readKnot u_galleries u_minesRead u_moon u_time u_shut u_men u_done u_seedNow u_keptMine u_keptMen u_keptShut u_keptMoon u_keptTime u_hash z_13.2.1 z_13.2.2.1 z_13.2.2.2)) (isC := [0, 1]) (isR := [2]) (perm := [1, 2, 0]) (ws' := (w_X11_go cA a_me a_page a_readRows a_readDraughts a_rows a_draughts a_gas a_heights a_steps a_menRows a_smoke a_lengths a_order a_bestOrder a_savedMen a_savedGas a_keptGas a_keptMenRows u_pageMany u_galleries u_minesRead u_moon u_time u_shut u_men u_done u_seedNow u_keptMine u_keptMen u_keptShut u_keptMoon u_keptTime u_hash z_13.2.1 c_readShafts c_readKnot z_13.2.2.1 z_13.2.2.2 c_readDraughts)) X (c_X11_goGallery l D cA a_me a_page a_readRows a_readDraughts a_rows a_draughts a_gas a_heights a_steps a_menRows a_smoke a_lengths a_order a_bestOrder a_savedMen a_savedGas a_keptGas a_keptMenRows u_pageMany c_readShafts c_readKnot u_galleries u_minesRead u_moon u_time u_shut u_men u_done u_seedNow u_keptMine u_keptMen u_keptShut u_keptMoon u_keptTime u_hash c_readMany c_state c_readRows v2_1 _ hz_13) 0 rfl rfl rfl gX11_go_X11_goGallery rfl rfl rfl ⟨rfl, hd_X11_goGallery⟩ ⟨Nat.le_of_ble_eq_true rfl, Nat.le_of_ble_eq_true rfl⟩ rfl rfl (Nat.le_of_ble_eq_true rfl) rfl (by decide) rfl (by decide) (by decide) ⟨Nat.zero_le _, Nat.zero_le _⟩ rfl (by decide) dX11_go_17 rfl ?_
    obtain ⟨c_14, h⟩ := ite_y h
    cases Option.some.inj h
    exact hret _ _ dX11_go_20 (nar_z c_14)
abbrev rm_X11_faultOf : Room := { frames := 3, cells := 0, slots := 0, locals := 71 }
abbrev w_X11_faultOf (cA : ClassId) (a_me a_page a_readRows a_readDraughts a_rows a_draughts a_gas a_heights a_steps a_menRows a_smoke a_lengths a_order a_bestOrder a_savedMen a_savedGas a_keptGas a_keptMenRows : Nat) (u_galleries : Int32) (u_minesRead : Int32) (u_moon : Int32) (u_time : Int32) (u_shut : Int32) (u_men : Int32) (u_done : Int32) (u_seedNow : Int32) (u_keptMine : Int32) (u_keptMen : Int32) (u_keptShut : Int32) (u_keptMoon : Int32) (u_keptTime : Int32) (u_hash : Int64) (c_pageMany : Int32) (c_readMany : Int32) (c_readShafts : Int32) (c_readKnot : Int32) (c_state : Int32) (c_page : A32) (c_readRows : A32) (c_readDraughts : A32) : va_W := [(a_me, .inr (11, [.ref a_page, .int c_pageMany, .ref a_readRows, .ref a_readDraughts, .int c_readMany, .int c_readShafts, .int c_readKnot, .int c_state, .int u_galleries, .int u_minesRead, .int u_moon, .int u_time, .ref a_rows, .ref a_draughts, .int u_shut, .ref a_gas, .ref a_heights, .ref a_steps, .int u_men, .ref a_menRows, .ref a_smoke, .int u_done, .ref a_lengths, .ref a_order, .ref a_bestOrder, .int u_seedNow, .ref a_savedMen, .ref a_savedGas, .int u_keptMine, .int u_keptMen, .int u_keptShut, .int u_keptMoon, .int u_keptTime, .ref a_keptGas, .ref a_keptMenRows, .long u_hash])), (a_page, .inl (cA, 66, .inl c_page)), (a_readRows, .inl (cA, 40, .inl c_readRows)), (a_readDraughts, .inl (cA, 7, .inl c_readDraughts))]
theorem hd_X11_faultOf : yX11_faultOf.cls ≠ "java/lang/invoke/MethodHandle" ∧ yX11_faultOf.cls ≠ "java/lang/invoke/VarHandle" ∧ (parseMethodDescriptor yX11_faultOf.desc).map (fun d => d.parameters.length) = some 0 := by decide +kernel
theorem iw_X11_faultOf_X11 : ∀ w ∈ wsX110, w ∈ wsX11_faultOf := fun w h => List.mem_cons_of_mem _ (List.mem_append_right _ h)
theorem fl_X11_faultOf_X11_4 : Cond.fieldLink RX11 70 RX11 (TX11 4).2.1 (TX11 4).2.2.1 ∈ wsX11_faultOf := List.mem_of_getElem? (i := 2) rfl
theorem fl_X11_faultOf_X11_5 : Cond.fieldLink RX11 91 RX11 (TX11 5).2.1 (TX11 5).2.2.1 ∈ wsX11_faultOf := List.mem_of_getElem? (i := 3) rfl
theorem fl_X11_faultOf_X11_7 : Cond.fieldLink RX11 73 RX11 (TX11 7).2.1 (TX11 7).2.2.1 ∈ wsX11_faultOf := List.mem_of_getElem? (i := 4) rfl
theorem fl_X11_faultOf_X11_3 : Cond.fieldLink RX11 16 RX11 (TX11 3).2.1 (TX11 3).2.2.1 ∈ wsX11_faultOf := List.mem_of_getElem? (i := 1) rfl
theorem fl_X11_faultOf_X11_1 : Cond.fieldLink RX11 67 RX11 (TX11 1).2.1 (TX11 1).2.2.1 ∈ wsX11_faultOf := List.mem_of_getElem? (i := 5) rfl
theorem fl_X11_faultOf_X11_0 : Cond.fieldLink RX11 7 RX11 (TX11 0).2.1 (TX11 0).2.2.1 ∈ wsX11_faultOf := List.mem_of_getElem? (i := 6) rfl
set_option maxHeartbeats 4000000 in
set_option maxRecDepth 100000 in
theorem t_X11_faultOf_b38 {l : Launch} {D : va_G} {cA : ClassId} {p : Program} {e : Env} {s : State} {m : MethodId} {args : Array Value} {below : List Frame} {meth : Method} {c : Code} {A : Nat → Prop} {Q : State → Prop} {z : Int32 × Int32 × Int32 × Int32 × Int32 × A32 × A32} {a_me a_page a_readRows a_readDraughts a_rows a_draughts a_gas a_heights a_steps a_menRows a_smoke a_lengths a_order a_bestOrder a_savedMen a_savedGas a_keptGas a_keptMenRows : Nat} {u_galleries : Int32} {u_minesRead : Int32} {u_moon : Int32} {u_time : Int32} {u_shut : Int32} {u_men : Int32} {u_done : Int32} {u_seedNow : Int32} {u_keptMine : Int32} {u_keptMen : Int32} {u_keptShut : Int32} {u_keptMoon : Int32} {u_keptTime : Int32} {u_hash : Int64}  {c_pageMany : Int32} {c_page : A32}  (X : GX p s m args c cX11_faultOf RX11 wsX11_faultOf D cA A 2) (hret : RtI p l e rm_X11_faultOf s m args below meth c cX11_faultOf D A 2 0 0 Q .int z.1 (w_X11_faultOf cA a_me a_page a_readRows a_readDraughts a_rows a_draughts a_gas a_heights a_steps a_menRows a_smoke a_lengths a_order a_bestOrder a_savedMen a_savedGas a_keptGas a_keptMenRows u_galleries u_minesRead u_moon u_time u_shut u_men u_done u_seedNow u_keptMine u_keptMen u_keptShut u_keptMoon u_keptTime u_hash c_pageMany z.2.1 z.2.2.1 z.2.2.2.1 z.2.2.2.2.1 c_page z.2.2.2.2.2.1 z.2.2.2.2.2.2))  : ∀ (fu : Nat) (c_readMany : Int32) (c_readShafts : Int32) (c_readKnot : Int32) (c_state : Int32) (c_readRows : A32) (c_readDraughts : A32) (v1 : Int32), f_X11_faultOf_b38 c_pageMany c_page fu c_readMany c_readShafts c_readKnot c_state c_readRows c_readDraughts v1 = some z → G p l e rm_X11_faultOf s m args below meth c D A 2 0 0 Q 38 [(0, .ref a_me), (1, .int v1)] [] (w_X11_faultOf cA a_me a_page a_readRows a_readDraughts a_rows a_draughts a_gas a_heights a_steps a_menRows a_smoke a_lengths a_order a_bestOrder a_savedMen a_savedGas a_keptGas a_keptMenRows u_galleries u_minesRead u_moon u_time u_shut u_men u_done u_seedNow u_keptMine u_keptMen u_keptShut u_keptMoon u_keptTime u_hash c_pageMany c_readMany c_readShafts c_readKnot c_state c_page c_readRows c_readDraughts) := by
  intro fu
  induction fu with
  | zero => intro c_readMany c_readShafts c_readKnot c_state c_readRows c_readDraughts v1 h; exact absurd (show (none : Option (Int32 × Int32 × Int32 × Int32 × Int32 × A32 × A32)) = some z from h) (by simp)
  | succ fu ih =>
    intro c_readMany c_readShafts c_readKnot c_state c_readRows c_readDraughts v1 h
    have h : (if c_pageMany ≤ v1 then some (v1, c_readMany, c_readShafts, c_readKnot, c_state, c_readRows, c_readDraughts) else if inB v1 66 then Option.bind (f_X11_go c_readMany c_readShafts c_readKnot c_state c_readRows c_readDraughts (c_page v1.toNatClampNeg)) fun z_2 => if z_2.1 = 0 then some (v1, z_2.2.1, z_2.2.2.1, z_2.2.2.2.1, z_2.2.2.2.2.1, z_2.2.2.2.2.2.1, z_2.2.2.2.2.2.2) else nam (v1 + 1) fun v1_4 => (f_X11_faultOf_b38 c_pageMany c_page fu) z_2.2.1 z_2.2.2.1 z_2.2.2.2.1 z_2.2.2.2.2.1 z_2.2.2.2.2.2.1 z_2.2.2.2.2.2.2 v1_4 else none : Option (Int32 × Int32 × Int32 × Int32 × Int32 × A32 × A32)) = some z := h
    refine g_iload_n X 1 rfl rfl dX11_faultOf_38 rfl ?_
    refine g_aload_n X 0 rfl rfl dX11_faultOf_39 rfl ?_
    refine g_getf (C := RX11) (T := TX11) (N := 36) (v := .int c_pageMany) X 0 rfl vc_X11 1 (by decide) iw_X11_faultOf_X11 fl_X11_faultOf_X11_1 rfl rfl dX11_faultOf_40 rfl ?_
    refine g_icmp_ge (tgt := 65) X dX11_faultOf_43 (by decide) rfl h (fun c_1 h => ?_) (fun c_1 h => ?_)
    · refine g_iload_n X 1 rfl rfl dX11_faultOf_65 rfl ?_
      cases Option.some.inj h
      exact hret _ _ dX11_faultOf_66 rfl
    · refine g_aload_n X 0 rfl rfl dX11_faultOf_46 rfl ?_
      refine g_aload_n X 0 rfl rfl dX11_faultOf_47 rfl ?_
      refine g_getf (C := RX11) (T := TX11) (N := 36) (v := .ref a_page) X 0 rfl vc_X11 0 (by decide) iw_X11_faultOf_X11 fl_X11_faultOf_X11_0 rfl rfl dX11_faultOf_48 rfl ?_
      refine g_iload_n X 1 rfl rfl dX11_faultOf_51 rfl ?_
      refine g_iald X 1 rfl dX11_faultOf_52 rfl h (fun h => ?_)
      obtain ⟨z_2, hz_2, h⟩ := bnd_s h
      refine g_callVI (rm := rm_X11_go) (As := [.int (c_page v1.toNatClampNeg)]) (r := z_2.1) (W0 := (w_X11_go cA a_me a_page a_readRows a_readDraughts a_rows a_draughts a_gas a_heights a_steps a_menRows a_smoke a_lengths a_order a_bestOrder a_savedMen a_savedGas a_keptGas a_keptMenRows c_pageMany u_galleries u_minesRead u_moon u_time u_shut u_men u_done u_seedNow u_keptMine u_keptMen u_keptShut u_keptMoon u_keptTime u_hash c_readMany c_readShafts c_readKnot c_state c_readRows c_readDraughts)) (W1 := (w_X11_go cA a_me a_page a_readRows a_readDraughts a_rows a_draughts a_gas a_heights a_steps a_menRows a_smoke a_lengths a_order a_bestOrder a_savedMen a_savedGas a_keptGas a_keptMenRows c_pageMany u_galleries u_minesRead u_moon u_time u_shut u_men u_done u_seedNow u_keptMine u_keptMen u_keptShut u_keptMoon u_keptTime u_hash z_2.2.1 z_2.2.2.1 z_2.2.2.2.1 z_2.2.2.2.2.1 z_2.2.2.2.2.2.1 z_2.2.2.2.2.2.2)) (isC := [0, 2, 3]) (isR := [1]) (perm := [1, 0, 2, 3]) (ws' := (w_X11_faultOf cA a_me a_page a_readRows a_readDraughts a_rows a_draughts a_gas a_heights a_steps a_menRows a_smoke a_lengths a_order a_bestOrder a_savedMen a_savedGas a_keptGas a_keptMenRows u_galleries u_minesRead u_moon u_time u_shut u_men u_done u_seedNow u_keptMine u_keptMen u_keptShut u_keptMoon u_keptTime u_hash c_pageMany z_2.2.1 z_2.2.2.1 z_2.2.2.2.1 z_2.2.2.2.2.1 c_page z_2.2.2.2.2.2.1 z_2.2.2.2.2.2.2)) X (c_X11_go l D cA a_me a_page a_readRows a_readDraughts a_rows a_draughts a_gas a_heights a_steps a_menRows a_smoke a_lengths a_order a_bestOrder a_savedMen a_savedGas a_keptGas a_keptMenRows c_pageMany u_galleries u_minesRead u_moon u_time u_shut u_men u_done u_seedNow u_keptMine u_keptMen u_keptShut u_keptMoon u_keptTime u_hash c_readMany c_readShafts c_readKnot c_state c_readRows c_readDraughts (c_page v1.toNatClampNeg) _ hz_2) 0 rfl rfl rfl gX11_faultOf_X11_go rfl rfl rfl ⟨rfl, hd_X11_go⟩ ⟨Nat.le_of_ble_eq_true rfl, Nat.le_of_ble_eq_true rfl⟩ rfl rfl (Nat.le_of_ble_eq_true rfl) rfl (by decide) rfl (by decide) (by decide) ⟨Nat.zero_le _, Nat.zero_le _⟩ rfl (by decide) dX11_faultOf_53 rfl ?_
      refine g_if_eq (tgt := 65) X dX11_faultOf_56 (by decide) rfl h (fun c_3 h => ?_) (fun c_3 h => ?_)
      · refine g_iload_n X 1 rfl rfl dX11_faultOf_65 rfl ?_
        cases Option.some.inj h
        exact hret _ _ dX11_faultOf_66 rfl
      · obtain ⟨v1_4, ev1_4, h⟩ := nam_s h
        refine g_iinc (v := v1_4) (lv' := [(1, .int v1_4), (0, .ref a_me)]) X 1 rfl (by rw [ev1_4]; rfl) (by decide) rfl dX11_faultOf_59 rfl ?_
        refine g_goto (tgt := 38) X dX11_faultOf_62 (by decide) ?_
        refine g_lvs [1, 0] rfl ?_
        exact ih _ _ _ _ _ _ _ h
set_option maxHeartbeats 4000000 in
set_option maxRecDepth 100000 in
theorem t_X11_faultOf_b2 {l : Launch} {D : va_G} {cA : ClassId} {p : Program} {e : Env} {s : State} {m : MethodId} {args : Array Value} {below : List Frame} {meth : Method} {c : Code} {A : Nat → Prop} {Q : State → Prop} {z : Int32 × Int32 × Int32 × Int32 × Int32 × A32 × A32} {a_me a_page a_readRows a_readDraughts a_rows a_draughts a_gas a_heights a_steps a_menRows a_smoke a_lengths a_order a_bestOrder a_savedMen a_savedGas a_keptGas a_keptMenRows : Nat} {u_galleries : Int32} {u_minesRead : Int32} {u_moon : Int32} {u_time : Int32} {u_shut : Int32} {u_men : Int32} {u_done : Int32} {u_seedNow : Int32} {u_keptMine : Int32} {u_keptMen : Int32} {u_keptShut : Int32} {u_keptMoon : Int32} {u_keptTime : Int32} {u_hash : Int64}  {c_pageMany : Int32} {c_readMany : Int32} {c_readShafts : Int32} {c_readKnot : Int32} {c_state : Int32} {c_page : A32} {c_readRows : A32}  (X : GX p s m args c cX11_faultOf RX11 wsX11_faultOf D cA A 2) (hret : RtI p l e rm_X11_faultOf s m args below meth c cX11_faultOf D A 2 0 0 Q .int z.1 (w_X11_faultOf cA a_me a_page a_readRows a_readDraughts a_rows a_draughts a_gas a_heights a_steps a_menRows a_smoke a_lengths a_order a_bestOrder a_savedMen a_savedGas a_keptGas a_keptMenRows u_galleries u_minesRead u_moon u_time u_shut u_men u_done u_seedNow u_keptMine u_keptMen u_keptShut u_keptMoon u_keptTime u_hash c_pageMany z.2.1 z.2.2.1 z.2.2.2.1 z.2.2.2.2.1 c_page z.2.2.2.2.2.1 z.2.2.2.2.2.2))  : ∀ (fu : Nat) (c_readDraughts : A32) (v1 : Int32), f_X11_faultOf_b2 c_pageMany c_readMany c_readShafts c_readKnot c_state c_page c_readRows fu c_readDraughts v1 = some z → G p l e rm_X11_faultOf s m args below meth c D A 2 0 0 Q 2 [(0, .ref a_me), (1, .int v1)] [] (w_X11_faultOf cA a_me a_page a_readRows a_readDraughts a_rows a_draughts a_gas a_heights a_steps a_menRows a_smoke a_lengths a_order a_bestOrder a_savedMen a_savedGas a_keptGas a_keptMenRows u_galleries u_minesRead u_moon u_time u_shut u_men u_done u_seedNow u_keptMine u_keptMen u_keptShut u_keptMoon u_keptTime u_hash c_pageMany c_readMany c_readShafts c_readKnot c_state c_page c_readRows c_readDraughts) := by
  intro fu
  induction fu with
  | zero => intro c_readDraughts v1 h; exact absurd (show (none : Option (Int32 × Int32 × Int32 × Int32 × Int32 × A32 × A32)) = some z from h) (by simp)
  | succ fu ih =>
    intro c_readDraughts v1 h
    have h : (if 7 ≤ v1 then f_X11_faultOf_b38 c_pageMany c_page FU 0 0 c_readKnot 0 c_readRows c_readDraughts 0 else if inB v1 7 then nam (v1 + 1) fun v1_2 => (f_X11_faultOf_b2 c_pageMany c_readMany c_readShafts c_readKnot c_state c_page c_readRows fu) (upd c_readDraughts (Int32.toNatClampNeg v1) (-1)) v1_2 else none : Option (Int32 × Int32 × Int32 × Int32 × Int32 × A32 × A32)) = some z := h
    refine g_iload_n X 1 rfl rfl dX11_faultOf_2 rfl ?_
    refine g_bipush (v := 7) X dX11_faultOf_3 (by decide) rfl ?_
    refine g_icmp_ge (tgt := 21) X dX11_faultOf_5 (by decide) rfl h (fun c_1 h => ?_) (fun c_1 h => ?_)
    · refine g_aload_n X 0 rfl rfl dX11_faultOf_21 rfl ?_
      refine g_iconst (v := 0) X dX11_faultOf_22 (by decide) rfl ?_
      refine g_putf (C := RX11) (T := TX11) (N := 36) (ty := .int) (ws' := (w_X11_faultOf cA a_me a_page a_readRows a_readDraughts a_rows a_draughts a_gas a_heights a_steps a_menRows a_smoke a_lengths a_order a_bestOrder a_savedMen a_savedGas a_keptGas a_keptMenRows u_galleries u_minesRead u_moon u_time u_shut u_men u_done u_seedNow u_keptMine u_keptMen u_keptShut u_keptMoon u_keptTime u_hash c_pageMany 0 c_readShafts c_readKnot c_state c_page c_readRows c_readDraughts)) X 0 tyX11 tyX11_ok nmX11 rfl vc_X11 4 (by decide) iw_X11_faultOf_X11 fl_X11_faultOf_X11_4 rfl rfl pd_X11_4 rfl rfl (Nat.le_of_ble_eq_true rfl) rfl dX11_faultOf_23 rfl ?_
      refine g_aload_n X 0 rfl rfl dX11_faultOf_26 rfl ?_
      refine g_iconst (v := 0) X dX11_faultOf_27 (by decide) rfl ?_
      refine g_putf (C := RX11) (T := TX11) (N := 36) (ty := .int) (ws' := (w_X11_faultOf cA a_me a_page a_readRows a_readDraughts a_rows a_draughts a_gas a_heights a_steps a_menRows a_smoke a_lengths a_order a_bestOrder a_savedMen a_savedGas a_keptGas a_keptMenRows u_galleries u_minesRead u_moon u_time u_shut u_men u_done u_seedNow u_keptMine u_keptMen u_keptShut u_keptMoon u_keptTime u_hash c_pageMany 0 0 c_readKnot c_state c_page c_readRows c_readDraughts)) X 0 tyX11 tyX11_ok nmX11 rfl vc_X11 5 (by decide) iw_X11_faultOf_X11 fl_X11_faultOf_X11_5 rfl rfl pd_X11_5 rfl rfl (Nat.le_of_ble_eq_true rfl) rfl dX11_faultOf_28 rfl ?_
      refine g_aload_n X 0 rfl rfl dX11_faultOf_31 rfl ?_
      refine g_iconst (v := 0) X dX11_faultOf_32 (by decide) rfl ?_
      refine g_putf (C := RX11) (T := TX11) (N := 36) (ty := .int) (ws' := (w_X11_faultOf cA a_me a_page a_readRows a_readDraughts a_rows a_draughts a_gas a_heights a_steps a_menRows a_smoke a_lengths a_order a_bestOrder a_savedMen a_savedGas a_keptGas a_keptMenRows u_galleries u_minesRead u_moon u_time u_shut u_men u_done u_seedNow u_keptMine u_keptMen u_keptShut u_keptMoon u_keptTime u_hash c_pageMany 0 0 c_readKnot 0 c_page c_readRows c_readDraughts)) X 0 tyX11 tyX11_ok nmX11 rfl vc_X11 7 (by decide) iw_X11_faultOf_X11 fl_X11_faultOf_X11_7 rfl rfl pd_X11_7 rfl rfl (Nat.le_of_ble_eq_true rfl) rfl dX11_faultOf_33 rfl ?_
      refine g_iconst (v := 0) X dX11_faultOf_36 (by decide) rfl ?_
      refine g_istore_n (lv' := [(1, .int 0), (0, .ref a_me)]) X rfl (by decide) rfl dX11_faultOf_37 rfl ?_
      refine g_lvs [1, 0] rfl ?_
      exact t_X11_faultOf_b38 X hret _ _ _ _ _ _ _ _ h
    · refine g_aload_n X 0 rfl rfl dX11_faultOf_8 rfl ?_
      refine g_getf (C := RX11) (T := TX11) (N := 36) (v := .ref a_readDraughts) X 0 rfl vc_X11 3 (by decide) iw_X11_faultOf_X11 fl_X11_faultOf_X11_3 rfl rfl dX11_faultOf_9 rfl ?_
      refine g_iload_n X 1 rfl rfl dX11_faultOf_12 rfl ?_
      refine g_iconst (v := (-1)) X dX11_faultOf_13 (by decide) rfl ?_
      refine g_iast (ws' := (w_X11_faultOf cA a_me a_page a_readRows a_readDraughts a_rows a_draughts a_gas a_heights a_steps a_menRows a_smoke a_lengths a_order a_bestOrder a_savedMen a_savedGas a_keptGas a_keptMenRows u_galleries u_minesRead u_moon u_time u_shut u_men u_done u_seedNow u_keptMine u_keptMen u_keptShut u_keptMoon u_keptTime u_hash c_pageMany c_readMany c_readShafts c_readKnot c_state c_page c_readRows (upd c_readDraughts (Int32.toNatClampNeg v1) (-1)))) X 3 rfl rfl dX11_faultOf_14 rfl h (fun h => ?_)
      obtain ⟨v1_2, ev1_2, h⟩ := nam_s h
      refine g_iinc (v := v1_2) (lv' := [(1, .int v1_2), (0, .ref a_me)]) X 1 rfl (by rw [ev1_2]; rfl) (by decide) rfl dX11_faultOf_15 rfl ?_
      refine g_goto (tgt := 2) X dX11_faultOf_18 (by decide) ?_
      refine g_lvs [1, 0] rfl ?_
      exact ih _ _ h
set_option maxHeartbeats 4000000 in
set_option maxRecDepth 100000 in
theorem c_X11_faultOf (l : Launch) (D : va_G) (cA : ClassId) (a_me a_page a_readRows a_readDraughts a_rows a_draughts a_gas a_heights a_steps a_menRows a_smoke a_lengths a_order a_bestOrder a_savedMen a_savedGas a_keptGas a_keptMenRows : Nat) (u_galleries : Int32) (u_minesRead : Int32) (u_moon : Int32) (u_time : Int32) (u_shut : Int32) (u_men : Int32) (u_done : Int32) (u_seedNow : Int32) (u_keptMine : Int32) (u_keptMen : Int32) (u_keptShut : Int32) (u_keptMoon : Int32) (u_keptTime : Int32) (u_hash : Int64) (c_pageMany : Int32) (c_readMany : Int32) (c_readShafts : Int32) (c_readKnot : Int32) (c_state : Int32) (c_page : A32) (c_readRows : A32) (c_readDraughts : A32) (z : Int32 × Int32 × Int32 × Int32 × Int32 × A32 × A32) (h : f_X11_faultOf c_pageMany c_readMany c_readShafts c_readKnot c_state c_page c_readRows c_readDraughts = some z) : CtI l yX11_faultOf wsX11_faultOf rm_X11_faultOf D cA [.ref a_me] (w_X11_faultOf cA a_me a_page a_readRows a_readDraughts a_rows a_draughts a_gas a_heights a_steps a_menRows a_smoke a_lengths a_order a_bestOrder a_savedMen a_savedGas a_keptGas a_keptMenRows u_galleries u_minesRead u_moon u_time u_shut u_men u_done u_seedNow u_keptMine u_keptMen u_keptShut u_keptMoon u_keptTime u_hash c_pageMany c_readMany c_readShafts c_readKnot c_state c_page c_readRows c_readDraughts) z.1 (w_X11_faultOf cA a_me a_page a_readRows a_readDraughts a_rows a_draughts a_gas a_heights a_steps a_menRows a_smoke a_lengths a_order a_bestOrder a_savedMen a_savedGas a_keptGas a_keptMenRows u_galleries u_minesRead u_moon u_time u_shut u_men u_done u_seedNow u_keptMine u_keptMen u_keptShut u_keptMoon u_keptTime u_hash c_pageMany z.2.1 z.2.2.1 z.2.2.2.1 z.2.2.2.2.1 c_page z.2.2.2.2.2.1 z.2.2.2.2.2.2) := by
  refine ct_I (maxL := 2) (ty := .int) (cc := cX11_faultOf) (by decide) rfl (Nat.le_of_ble_eq_true rfl) rfl (fun p e s m args below meth c A Q X hret => ?_)
  have h : (f_X11_faultOf_b2 c_pageMany c_readMany c_readShafts c_readKnot c_state c_page c_readRows FU c_readDraughts 0 : Option (Int32 × Int32 × Int32 × Int32 × Int32 × A32 × A32)) = some z := h
  refine g_iconst (v := 0) X dX11_faultOf_0 (by decide) rfl ?_
  refine g_istore_n (lv' := [(1, .int 0), (0, .ref a_me)]) X rfl (by decide) rfl dX11_faultOf_1 rfl ?_
  refine g_lvs [1, 0] rfl ?_
  exact t_X11_faultOf_b2 X hret _ _ _ h
abbrev rm_X11_fault : Room := { frames := 4, cells := 0, slots := 0, locals := 92 }
abbrev w_X11_fault (cA : ClassId) (a_me a_page a_readRows a_readDraughts a_rows a_draughts a_gas a_heights a_steps a_menRows a_smoke a_lengths a_order a_bestOrder a_savedMen a_savedGas a_keptGas a_keptMenRows : Nat) (u_galleries : Int32) (u_minesRead : Int32) (u_moon : Int32) (u_time : Int32) (u_shut : Int32) (u_men : Int32) (u_done : Int32) (u_seedNow : Int32) (u_keptMine : Int32) (u_keptMen : Int32) (u_keptShut : Int32) (u_keptMoon : Int32) (u_keptTime : Int32) (u_hash : Int64) (c_pageMany : Int32) (c_readMany : Int32) (c_readShafts : Int32) (c_readKnot : Int32) (c_state : Int32) (c_page : A32) (c_readRows : A32) (c_readDraughts : A32) : va_W := [(a_me, .inr (11, [.ref a_page, .int c_pageMany, .ref a_readRows, .ref a_readDraughts, .int c_readMany, .int c_readShafts, .int c_readKnot, .int c_state, .int u_galleries, .int u_minesRead, .int u_moon, .int u_time, .ref a_rows, .ref a_draughts, .int u_shut, .ref a_gas, .ref a_heights, .ref a_steps, .int u_men, .ref a_menRows, .ref a_smoke, .int u_done, .ref a_lengths, .ref a_order, .ref a_bestOrder, .int u_seedNow, .ref a_savedMen, .ref a_savedGas, .int u_keptMine, .int u_keptMen, .int u_keptShut, .int u_keptMoon, .int u_keptTime, .ref a_keptGas, .ref a_keptMenRows, .long u_hash])), (a_page, .inl (cA, 66, .inl c_page)), (a_readRows, .inl (cA, 40, .inl c_readRows)), (a_readDraughts, .inl (cA, 7, .inl c_readDraughts))]
theorem hd_X11_fault : yX11_fault.cls ≠ "java/lang/invoke/MethodHandle" ∧ yX11_fault.cls ≠ "java/lang/invoke/VarHandle" ∧ (parseMethodDescriptor yX11_fault.desc).map (fun d => d.parameters.length) = some 0 := by decide +kernel
set_option maxHeartbeats 4000000 in
set_option maxRecDepth 100000 in
theorem c_X11_fault (l : Launch) (D : va_G) (cA : ClassId) (a_me a_page a_readRows a_readDraughts a_rows a_draughts a_gas a_heights a_steps a_menRows a_smoke a_lengths a_order a_bestOrder a_savedMen a_savedGas a_keptGas a_keptMenRows : Nat) (u_galleries : Int32) (u_minesRead : Int32) (u_moon : Int32) (u_time : Int32) (u_shut : Int32) (u_men : Int32) (u_done : Int32) (u_seedNow : Int32) (u_keptMine : Int32) (u_keptMen : Int32) (u_keptShut : Int32) (u_keptMoon : Int32) (u_keptTime : Int32) (u_hash : Int64) (c_pageMany : Int32) (c_readMany : Int32) (c_readShafts : Int32) (c_readKnot : Int32) (c_state : Int32) (c_page : A32) (c_readRows : A32) (c_readDraughts : A32) (z : Int32 × Int32 × Int32 × Int32 × Int32 × A32 × A32) (h : f_X11_fault c_pageMany c_readMany c_readShafts c_readKnot c_state c_page c_readRows c_readDraughts = some z) : CtI l yX11_fault wsX11_fault rm_X11_fault D cA [.ref a_me] (w_X11_fault cA a_me a_page a_readRows a_readDraughts a_rows a_draughts a_gas a_heights a_steps a_menRows a_smoke a_lengths a_order a_bestOrder a_savedMen a_savedGas a_keptGas a_keptMenRows u_galleries u_minesRead u_moon u_time u_shut u_men u_done u_seedNow u_keptMine u_keptMen u_keptShut u_keptMoon u_keptTime u_hash c_pageMany c_readMany c_readShafts c_readKnot c_state c_page c_readRows c_readDraughts) z.1 (w_X11_fault cA a_me a_page a_readRows a_readDraughts a_rows a_draughts a_gas a_heights a_steps a_menRows a_smoke a_lengths a_order a_bestOrder a_savedMen a_savedGas a_keptGas a_keptMenRows u_galleries u_minesRead u_moon u_time u_shut u_men u_done u_seedNow u_keptMine u_keptMen u_keptShut u_keptMoon u_keptTime u_hash c_pageMany z.2.1 z.2.2.1 z.2.2.2.1 z.2.2.2.2.1 c_page z.2.2.2.2.2.1 z.2.2.2.2.2.2) := by
  refine ct_I (maxL := 1) (ty := .int) (cc := cX11_fault) (by decide) rfl (Nat.le_of_ble_eq_true rfl) rfl (fun p e s m args below meth c A Q X hret => ?_)
  have h : (Option.bind (f_X11_faultOf c_pageMany c_readMany c_readShafts c_readKnot c_state c_page c_readRows c_readDraughts) fun z_1 => some (z_1.1, z_1.2.1, z_1.2.2.1, z_1.2.2.2.1, z_1.2.2.2.2.1, z_1.2.2.2.2.2.1, z_1.2.2.2.2.2.2) : Option (Int32 × Int32 × Int32 × Int32 × Int32 × A32 × A32)) = some z := h
  refine g_aload_n X 0 rfl rfl dX11_fault_0 rfl ?_
  obtain ⟨z_1, hz_1, h⟩ := bnd_s h
  refine g_callVI (rm := rm_X11_faultOf) (As := []) (r := z_1.1) (W0 := (w_X11_faultOf cA a_me a_page a_readRows a_readDraughts a_rows a_draughts a_gas a_heights a_steps a_menRows a_smoke a_lengths a_order a_bestOrder a_savedMen a_savedGas a_keptGas a_keptMenRows u_galleries u_minesRead u_moon u_time u_shut u_men u_done u_seedNow u_keptMine u_keptMen u_keptShut u_keptMoon u_keptTime u_hash c_pageMany c_readMany c_readShafts c_readKnot c_state c_page c_readRows c_readDraughts)) (W1 := (w_X11_faultOf cA a_me a_page a_readRows a_readDraughts a_rows a_draughts a_gas a_heights a_steps a_menRows a_smoke a_lengths a_order a_bestOrder a_savedMen a_savedGas a_keptGas a_keptMenRows u_galleries u_minesRead u_moon u_time u_shut u_men u_done u_seedNow u_keptMine u_keptMen u_keptShut u_keptMoon u_keptTime u_hash c_pageMany z_1.2.1 z_1.2.2.1 z_1.2.2.2.1 z_1.2.2.2.2.1 c_page z_1.2.2.2.2.2.1 z_1.2.2.2.2.2.2)) (isC := [0, 1, 2, 3]) (isR := []) (perm := [0, 1, 2, 3]) (ws' := (w_X11_fault cA a_me a_page a_readRows a_readDraughts a_rows a_draughts a_gas a_heights a_steps a_menRows a_smoke a_lengths a_order a_bestOrder a_savedMen a_savedGas a_keptGas a_keptMenRows u_galleries u_minesRead u_moon u_time u_shut u_men u_done u_seedNow u_keptMine u_keptMen u_keptShut u_keptMoon u_keptTime u_hash c_pageMany z_1.2.1 z_1.2.2.1 z_1.2.2.2.1 z_1.2.2.2.2.1 c_page z_1.2.2.2.2.2.1 z_1.2.2.2.2.2.2)) X (c_X11_faultOf l D cA a_me a_page a_readRows a_readDraughts a_rows a_draughts a_gas a_heights a_steps a_menRows a_smoke a_lengths a_order a_bestOrder a_savedMen a_savedGas a_keptGas a_keptMenRows u_galleries u_minesRead u_moon u_time u_shut u_men u_done u_seedNow u_keptMine u_keptMen u_keptShut u_keptMoon u_keptTime u_hash c_pageMany c_readMany c_readShafts c_readKnot c_state c_page c_readRows c_readDraughts _ hz_1) 0 rfl rfl rfl gX11_fault_X11_faultOf rfl rfl rfl ⟨rfl, hd_X11_faultOf⟩ ⟨Nat.le_of_ble_eq_true rfl, Nat.le_of_ble_eq_true rfl⟩ rfl rfl (Nat.le_of_ble_eq_true rfl) rfl (by decide) rfl (by decide) (by decide) ⟨Nat.zero_le _, Nat.zero_le _⟩ rfl (by decide) dX11_fault_1 rfl ?_
  cases Option.some.inj h
  exact hret _ _ dX11_fault_4 rfl
abbrev rm_X11_lacks : Room := { frames := 0, cells := 0, slots := 0, locals := 0 }
abbrev w_X11_lacks (cA : ClassId) (a_me a_page a_readRows a_readDraughts a_rows a_draughts a_gas a_heights a_steps a_menRows a_smoke a_lengths a_order a_bestOrder a_savedMen a_savedGas a_keptGas a_keptMenRows : Nat) (u_pageMany : Int32) (u_readMany : Int32) (u_readShafts : Int32) (u_readKnot : Int32) (u_state : Int32) (u_minesRead : Int32) (u_moon : Int32) (u_time : Int32) (u_shut : Int32) (u_men : Int32) (u_done : Int32) (u_seedNow : Int32) (u_keptMine : Int32) (u_keptMen : Int32) (u_keptShut : Int32) (u_keptMoon : Int32) (u_keptTime : Int32) (u_hash : Int64) (c_galleries : Int32) : va_W := [(a_me, .inr (11, [.ref a_page, .int u_pageMany, .ref a_readRows, .ref a_readDraughts, .int u_readMany, .int u_readShafts, .int u_readKnot, .int u_state, .int c_galleries, .int u_minesRead, .int u_moon, .int u_time, .ref a_rows, .ref a_draughts, .int u_shut, .ref a_gas, .ref a_heights, .ref a_steps, .int u_men, .ref a_menRows, .ref a_smoke, .int u_done, .ref a_lengths, .ref a_order, .ref a_bestOrder, .int u_seedNow, .ref a_savedMen, .ref a_savedGas, .int u_keptMine, .int u_keptMen, .int u_keptShut, .int u_keptMoon, .int u_keptTime, .ref a_keptGas, .ref a_keptMenRows, .long u_hash]))]
theorem hd_X11_lacks : yX11_lacks.cls ≠ "java/lang/invoke/MethodHandle" ∧ yX11_lacks.cls ≠ "java/lang/invoke/VarHandle" ∧ (parseMethodDescriptor yX11_lacks.desc).map (fun d => d.parameters.length) = some 0 := by decide +kernel
theorem iw_X11_lacks_X11 : ∀ w ∈ wsX110, w ∈ wsX11_lacks := fun w h => List.mem_cons_of_mem _ (List.mem_append_right _ h)
theorem fl_X11_lacks_X11_8 : Cond.fieldLink RX11 101 RX11 (TX11 8).2.1 (TX11 8).2.2.1 ∈ wsX11_lacks := List.mem_of_getElem? (i := 1) rfl
set_option maxHeartbeats 4000000 in
set_option maxRecDepth 100000 in
theorem c_X11_lacks (l : Launch) (D : va_G) (cA : ClassId) (a_me a_page a_readRows a_readDraughts a_rows a_draughts a_gas a_heights a_steps a_menRows a_smoke a_lengths a_order a_bestOrder a_savedMen a_savedGas a_keptGas a_keptMenRows : Nat) (u_pageMany : Int32) (u_readMany : Int32) (u_readShafts : Int32) (u_readKnot : Int32) (u_state : Int32) (u_minesRead : Int32) (u_moon : Int32) (u_time : Int32) (u_shut : Int32) (u_men : Int32) (u_done : Int32) (u_seedNow : Int32) (u_keptMine : Int32) (u_keptMen : Int32) (u_keptShut : Int32) (u_keptMoon : Int32) (u_keptTime : Int32) (u_hash : Int64) (c_galleries : Int32) (z : Int32) (h : f_X11_lacks c_galleries = some z) : CtI l yX11_lacks wsX11_lacks rm_X11_lacks D cA [.ref a_me] (w_X11_lacks cA a_me a_page a_readRows a_readDraughts a_rows a_draughts a_gas a_heights a_steps a_menRows a_smoke a_lengths a_order a_bestOrder a_savedMen a_savedGas a_keptGas a_keptMenRows u_pageMany u_readMany u_readShafts u_readKnot u_state u_minesRead u_moon u_time u_shut u_men u_done u_seedNow u_keptMine u_keptMen u_keptShut u_keptMoon u_keptTime u_hash c_galleries) z (w_X11_lacks cA a_me a_page a_readRows a_readDraughts a_rows a_draughts a_gas a_heights a_steps a_menRows a_smoke a_lengths a_order a_bestOrder a_savedMen a_savedGas a_keptGas a_keptMenRows u_pageMany u_readMany u_readShafts u_readKnot u_state u_minesRead u_moon u_time u_shut u_men u_done u_seedNow u_keptMine u_keptMen u_keptShut u_keptMoon u_keptTime u_hash c_galleries) := by
  refine ct_I (maxL := 1) (ty := .boolean) (cc := cX11_lacks) (by decide) rfl (Nat.le_of_ble_eq_true rfl) rfl (fun p e s m args below meth c A Q X hret => ?_)
  have h : (if c_galleries = 0 then some 1 else some 0 : Option (Int32)) = some z := h
  refine g_aload_n X 0 rfl rfl dX11_lacks_0 rfl ?_
  refine g_getf (C := RX11) (T := TX11) (N := 36) (v := .int c_galleries) X 0 rfl vc_X11 8 (by decide) iw_X11_lacks_X11 fl_X11_lacks_X11_8 rfl rfl dX11_lacks_1 rfl ?_
  refine g_if_ne (tgt := 11) X dX11_lacks_4 (by decide) rfl h (fun c_1 h => ?_) (fun c_1 h => ?_)
  · refine g_iconst (v := 0) X dX11_lacks_11 (by decide) rfl ?_
    cases Option.some.inj h
    exact hret _ _ dX11_lacks_12 (nar_z (Or.inl rfl))
  · refine g_iconst (v := 1) X dX11_lacks_7 (by decide) rfl ?_
    refine g_goto (tgt := 12) X dX11_lacks_8 (by decide) ?_
    cases Option.some.inj h
    exact hret _ _ dX11_lacks_12 (nar_z (Or.inr rfl))
abbrev rm_X11_isGallery : Room := { frames := 1, cells := 0, slots := 0, locals := 25 }
abbrev w_X11_isGallery (cA : ClassId) (a_me a_page a_readRows a_readDraughts a_rows a_draughts a_gas a_heights a_steps a_menRows a_smoke a_lengths a_order a_bestOrder a_savedMen a_savedGas a_keptGas a_keptMenRows : Nat) (u_pageMany : Int32) (u_readMany : Int32) (u_readShafts : Int32) (u_readKnot : Int32) (u_state : Int32) (u_minesRead : Int32) (u_moon : Int32) (u_time : Int32) (u_shut : Int32) (u_men : Int32) (u_done : Int32) (u_seedNow : Int32) (u_keptMine : Int32) (u_keptMen : Int32) (u_keptShut : Int32) (u_keptMoon : Int32) (u_keptTime : Int32) (u_hash : Int64) (c_galleries : Int32) : va_W := [(a_me, .inr (11, [.ref a_page, .int u_pageMany, .ref a_readRows, .ref a_readDraughts, .int u_readMany, .int u_readShafts, .int u_readKnot, .int u_state, .int c_galleries, .int u_minesRead, .int u_moon, .int u_time, .ref a_rows, .ref a_draughts, .int u_shut, .ref a_gas, .ref a_heights, .ref a_steps, .int u_men, .ref a_menRows, .ref a_smoke, .int u_done, .ref a_lengths, .ref a_order, .ref a_bestOrder, .int u_seedNow, .ref a_savedMen, .ref a_savedGas, .int u_keptMine, .int u_keptMen, .int u_keptShut, .int u_keptMoon, .int u_keptTime, .ref a_keptGas, .ref a_keptMenRows, .long u_hash]))]
theorem hd_X11_isGallery : yX11_isGallery.cls ≠ "java/lang/invoke/MethodHandle" ∧ yX11_isGallery.cls ≠ "java/lang/invoke/VarHandle" ∧ (parseMethodDescriptor yX11_isGallery.desc).map (fun d => d.parameters.length) = some 1 := by decide +kernel
theorem iw_X11_isGallery_X11 : ∀ w ∈ wsX110, w ∈ wsX11_isGallery := fun w h => List.mem_cons_of_mem _ (List.mem_append_right _ h)
theorem fl_X11_isGallery_X11_8 : Cond.fieldLink RX11 101 RX11 (TX11 8).2.1 (TX11 8).2.2.1 ∈ wsX11_isGallery := List.mem_of_getElem? (i := 1) rfl
set_option maxHeartbeats 4000000 in
set_option maxRecDepth 100000 in
theorem c_X11_isGallery (l : Launch) (D : va_G) (cA : ClassId) (a_me a_page a_readRows a_readDraughts a_rows a_draughts a_gas a_heights a_steps a_menRows a_smoke a_lengths a_order a_bestOrder a_savedMen a_savedGas a_keptGas a_keptMenRows : Nat) (u_pageMany : Int32) (u_readMany : Int32) (u_readShafts : Int32) (u_readKnot : Int32) (u_state : Int32) (u_minesRead : Int32) (u_moon : Int32) (u_time : Int32) (u_shut : Int32) (u_men : Int32) (u_done : Int32) (u_seedNow : Int32) (u_keptMine : Int32) (u_keptMen : Int32) (u_keptShut : Int32) (u_keptMoon : Int32) (u_keptTime : Int32) (u_hash : Int64) (c_galleries : Int32) (v1 : Int32) (z : Int32) (h : f_X11_isGallery c_galleries v1 = some z) : CtI l yX11_isGallery wsX11_isGallery rm_X11_isGallery D cA [.ref a_me, .int v1] (w_X11_isGallery cA a_me a_page a_readRows a_readDraughts a_rows a_draughts a_gas a_heights a_steps a_menRows a_smoke a_lengths a_order a_bestOrder a_savedMen a_savedGas a_keptGas a_keptMenRows u_pageMany u_readMany u_readShafts u_readKnot u_state u_minesRead u_moon u_time u_shut u_men u_done u_seedNow u_keptMine u_keptMen u_keptShut u_keptMoon u_keptTime u_hash c_galleries) z (w_X11_isGallery cA a_me a_page a_readRows a_readDraughts a_rows a_draughts a_gas a_heights a_steps a_menRows a_smoke a_lengths a_order a_bestOrder a_savedMen a_savedGas a_keptGas a_keptMenRows u_pageMany u_readMany u_readShafts u_readKnot u_state u_minesRead u_moon u_time u_shut u_men u_done u_seedNow u_keptMine u_keptMen u_keptShut u_keptMoon u_keptTime u_hash c_galleries) := by
  refine ct_I (maxL := 2) (ty := .boolean) (cc := cX11_isGallery) (by decide) rfl (Nat.le_of_ble_eq_true rfl) rfl (fun p e s m args below meth c A Q X hret => ?_)
  have h : (Option.bind (f_X11_in (Int32.toInt64 v1) 0 (Int32.toInt64 (c_galleries - 1))) fun z_1 => if z_1 = 0 ∨ z_1 = 1 then some z_1 else none : Option (Int32)) = some z := h
  refine g_iload_n X 1 rfl rfl dX11_isGallery_0 rfl ?_
  refine g_i2l X dX11_isGallery_1 rfl ?_
  refine g_lconst (v := 0) X dX11_isGallery_2 (by decide) rfl ?_
  refine g_aload_n X 0 rfl rfl dX11_isGallery_3 rfl ?_
  refine g_getf (C := RX11) (T := TX11) (N := 36) (v := .int c_galleries) X 0 rfl vc_X11 8 (by decide) iw_X11_isGallery_X11 fl_X11_isGallery_X11_8 rfl rfl dX11_isGallery_4 rfl ?_
  refine g_iconst (v := 1) X dX11_isGallery_7 (by decide) rfl ?_
  refine g_isub X dX11_isGallery_8 rfl ?_
  refine g_i2l X dX11_isGallery_9 rfl ?_
  obtain ⟨z_1, hz_1, h⟩ := bnd_s h
  refine g_callSI (rm := rm_X11_in) (As := [.long (Int32.toInt64 v1), .long 0, .long (Int32.toInt64 (c_galleries - 1))]) (r := z_1) (W0 := (w_X11_in cA )) (W1 := (w_X11_in cA )) (isC := []) (isR := [0]) (perm := [0]) (ws' := (w_X11_isGallery cA a_me a_page a_readRows a_readDraughts a_rows a_draughts a_gas a_heights a_steps a_menRows a_smoke a_lengths a_order a_bestOrder a_savedMen a_savedGas a_keptGas a_keptMenRows u_pageMany u_readMany u_readShafts u_readKnot u_state u_minesRead u_moon u_time u_shut u_men u_done u_seedNow u_keptMine u_keptMen u_keptShut u_keptMoon u_keptTime u_hash c_galleries)) X (c_X11_in l D cA (Int32.toInt64 v1) 0 (Int32.toInt64 (c_galleries - 1)) _ hz_1) gX11_isGallery_X11_in rfl rfl rfl hd_X11_in ⟨Nat.le_of_ble_eq_true rfl, Nat.le_of_ble_eq_true rfl⟩ rfl rfl (Nat.le_of_ble_eq_true rfl) rfl (by decide) rfl (by decide) (by decide) ⟨Nat.zero_le _, Nat.zero_le _⟩ rfl (by decide) dX11_isGallery_10 rfl ?_
  obtain ⟨c_2, h⟩ := ite_y h
  cases Option.some.inj h
  exact hret _ _ dX11_isGallery_13 (nar_z c_2)
abbrev rm_X11_isKnot : Room := { frames := 1, cells := 0, slots := 0, locals := 25 }
abbrev w_X11_isKnot (cA : ClassId) (a_me a_page a_readRows a_readDraughts a_rows a_draughts a_gas a_heights a_steps a_menRows a_smoke a_lengths a_order a_bestOrder a_savedMen a_savedGas a_keptGas a_keptMenRows : Nat) (u_pageMany : Int32) (u_readMany : Int32) (u_readShafts : Int32) (u_readKnot : Int32) (u_state : Int32) (u_minesRead : Int32) (u_moon : Int32) (u_time : Int32) (u_shut : Int32) (u_men : Int32) (u_done : Int32) (u_seedNow : Int32) (u_keptMine : Int32) (u_keptMen : Int32) (u_keptShut : Int32) (u_keptMoon : Int32) (u_keptTime : Int32) (u_hash : Int64) (c_galleries : Int32) : va_W := [(a_me, .inr (11, [.ref a_page, .int u_pageMany, .ref a_readRows, .ref a_readDraughts, .int u_readMany, .int u_readShafts, .int u_readKnot, .int u_state, .int c_galleries, .int u_minesRead, .int u_moon, .int u_time, .ref a_rows, .ref a_draughts, .int u_shut, .ref a_gas, .ref a_heights, .ref a_steps, .int u_men, .ref a_menRows, .ref a_smoke, .int u_done, .ref a_lengths, .ref a_order, .ref a_bestOrder, .int u_seedNow, .ref a_savedMen, .ref a_savedGas, .int u_keptMine, .int u_keptMen, .int u_keptShut, .int u_keptMoon, .int u_keptTime, .ref a_keptGas, .ref a_keptMenRows, .long u_hash]))]
theorem hd_X11_isKnot : yX11_isKnot.cls ≠ "java/lang/invoke/MethodHandle" ∧ yX11_isKnot.cls ≠ "java/lang/invoke/VarHandle" ∧ (parseMethodDescriptor yX11_isKnot.desc).map (fun d => d.parameters.length) = some 1 := by decide +kernel
set_option maxHeartbeats 4000000 in
set_option maxRecDepth 100000 in
theorem c_X11_isKnot (l : Launch) (D : va_G) (cA : ClassId) (a_me a_page a_readRows a_readDraughts a_rows a_draughts a_gas a_heights a_steps a_menRows a_smoke a_lengths a_order a_bestOrder a_savedMen a_savedGas a_keptGas a_keptMenRows : Nat) (u_pageMany : Int32) (u_readMany : Int32) (u_readShafts : Int32) (u_readKnot : Int32) (u_state : Int32) (u_minesRead : Int32) (u_moon : Int32) (u_time : Int32) (u_shut : Int32) (u_men : Int32) (u_done : Int32) (u_seedNow : Int32) (u_keptMine : Int32) (u_keptMen : Int32) (u_keptShut : Int32) (u_keptMoon : Int32) (u_keptTime : Int32) (u_hash : Int64) (c_galleries : Int32) (v1 : Int32) (z : Int32) (h : f_X11_isKnot c_galleries v1 = some z) : CtI l yX11_isKnot wsX11_isKnot rm_X11_isKnot D cA [.ref a_me, .int v1] (w_X11_isKnot cA a_me a_page a_readRows a_readDraughts a_rows a_draughts a_gas a_heights a_steps a_menRows a_smoke a_lengths a_order a_bestOrder a_savedMen a_savedGas a_keptGas a_keptMenRows u_pageMany u_readMany u_readShafts u_readKnot u_state u_minesRead u_moon u_time u_shut u_men u_done u_seedNow u_keptMine u_keptMen u_keptShut u_keptMoon u_keptTime u_hash c_galleries) z (w_X11_isKnot cA a_me a_page a_readRows a_readDraughts a_rows a_draughts a_gas a_heights a_steps a_menRows a_smoke a_lengths a_order a_bestOrder a_savedMen a_savedGas a_keptGas a_keptMenRows u_pageMany u_readMany u_readShafts u_readKnot u_state u_minesRead u_moon u_time u_shut u_men u_done u_seedNow u_keptMine u_keptMen u_keptShut u_keptMoon u_keptTime u_hash c_galleries) := by
  refine ct_I (maxL := 2) (ty := .boolean) (cc := cX11_isKnot) (by decide) rfl (Nat.le_of_ble_eq_true rfl) rfl (fun p e s m args below meth c A Q X hret => ?_)
  have h : (Option.bind (f_X11_lacks c_galleries) fun z_1 => if z_1 = 0 then Option.bind (f_X11_in (Int32.toInt64 v1) 0 6) fun z_3 => if z_3 = 0 then some 0 else some 1 else some 0 : Option (Int32)) = some z := h
  refine g_aload_n X 0 rfl rfl dX11_isKnot_0 rfl ?_
  obtain ⟨z_1, hz_1, h⟩ := bnd_s h
  refine g_callVI (rm := rm_X11_lacks) (As := []) (r := z_1) (W0 := (w_X11_lacks cA a_me a_page a_readRows a_readDraughts a_rows a_draughts a_gas a_heights a_steps a_menRows a_smoke a_lengths a_order a_bestOrder a_savedMen a_savedGas a_keptGas a_keptMenRows u_pageMany u_readMany u_readShafts u_readKnot u_state u_minesRead u_moon u_time u_shut u_men u_done u_seedNow u_keptMine u_keptMen u_keptShut u_keptMoon u_keptTime u_hash c_galleries)) (W1 := (w_X11_lacks cA a_me a_page a_readRows a_readDraughts a_rows a_draughts a_gas a_heights a_steps a_menRows a_smoke a_lengths a_order a_bestOrder a_savedMen a_savedGas a_keptGas a_keptMenRows u_pageMany u_readMany u_readShafts u_readKnot u_state u_minesRead u_moon u_time u_shut u_men u_done u_seedNow u_keptMine u_keptMen u_keptShut u_keptMoon u_keptTime u_hash c_galleries)) (isC := [0]) (isR := []) (perm := [0]) (ws' := (w_X11_isKnot cA a_me a_page a_readRows a_readDraughts a_rows a_draughts a_gas a_heights a_steps a_menRows a_smoke a_lengths a_order a_bestOrder a_savedMen a_savedGas a_keptGas a_keptMenRows u_pageMany u_readMany u_readShafts u_readKnot u_state u_minesRead u_moon u_time u_shut u_men u_done u_seedNow u_keptMine u_keptMen u_keptShut u_keptMoon u_keptTime u_hash c_galleries)) X (c_X11_lacks l D cA a_me a_page a_readRows a_readDraughts a_rows a_draughts a_gas a_heights a_steps a_menRows a_smoke a_lengths a_order a_bestOrder a_savedMen a_savedGas a_keptGas a_keptMenRows u_pageMany u_readMany u_readShafts u_readKnot u_state u_minesRead u_moon u_time u_shut u_men u_done u_seedNow u_keptMine u_keptMen u_keptShut u_keptMoon u_keptTime u_hash c_galleries _ hz_1) 0 rfl rfl rfl gX11_isKnot_X11_lacks rfl rfl rfl ⟨rfl, hd_X11_lacks⟩ ⟨Nat.le_of_ble_eq_true rfl, Nat.le_of_ble_eq_true rfl⟩ rfl rfl (Nat.le_of_ble_eq_true rfl) rfl (by decide) rfl (by decide) (by decide) ⟨Nat.zero_le _, Nat.zero_le _⟩ rfl (by decide) dX11_isKnot_1 rfl ?_
  refine g_if_ne (tgt := 23) X dX11_isKnot_4 (by decide) rfl h (fun c_2 h => ?_) (fun c_2 h => ?_)
  · refine g_iconst (v := 0) X dX11_isKnot_23 (by decide) rfl ?_
    cases Option.some.inj h
    exact hret _ _ dX11_isKnot_24 (nar_z (Or.inl rfl))
  · refine g_iload_n X 1 rfl rfl dX11_isKnot_7 rfl ?_
    refine g_i2l X dX11_isKnot_8 rfl ?_
    refine g_lconst (v := 0) X dX11_isKnot_9 (by decide) rfl ?_
    refine g_ldc2 (v := 6) X (by decide +kernel) dX11_isKnot_10 rfl ?_
    obtain ⟨z_3, hz_3, h⟩ := bnd_s h
    refine g_callSI (rm := rm_X11_in) (As := [.long (Int32.toInt64 v1), .long 0, .long 6]) (r := z_3) (W0 := (w_X11_in cA )) (W1 := (w_X11_in cA )) (isC := []) (isR := [0]) (perm := [0]) (ws' := (w_X11_isKnot cA a_me a_page a_readRows a_readDraughts a_rows a_draughts a_gas a_heights a_steps a_menRows a_smoke a_lengths a_order a_bestOrder a_savedMen a_savedGas a_keptGas a_keptMenRows u_pageMany u_readMany u_readShafts u_readKnot u_state u_minesRead u_moon u_time u_shut u_men u_done u_seedNow u_keptMine u_keptMen u_keptShut u_keptMoon u_keptTime u_hash c_galleries)) X (c_X11_in l D cA (Int32.toInt64 v1) 0 6 _ hz_3) gX11_isKnot_X11_in rfl rfl rfl hd_X11_in ⟨Nat.le_of_ble_eq_true rfl, Nat.le_of_ble_eq_true rfl⟩ rfl rfl (Nat.le_of_ble_eq_true rfl) rfl (by decide) rfl (by decide) (by decide) ⟨Nat.zero_le _, Nat.zero_le _⟩ rfl (by decide) dX11_isKnot_13 rfl ?_
    refine g_if_eq (tgt := 23) X dX11_isKnot_16 (by decide) rfl h (fun c_4 h => ?_) (fun c_4 h => ?_)
    · refine g_iconst (v := 0) X dX11_isKnot_23 (by decide) rfl ?_
      cases Option.some.inj h
      exact hret _ _ dX11_isKnot_24 (nar_z (Or.inl rfl))
    · refine g_iconst (v := 1) X dX11_isKnot_19 (by decide) rfl ?_
      refine g_goto (tgt := 24) X dX11_isKnot_20 (by decide) ?_
      cases Option.some.inj h
      exact hret _ _ dX11_isKnot_24 (nar_z (Or.inr rfl))
abbrev rm_X11_mine : Room := { frames := 4, cells := 0, slots := 0, locals := 92 }
abbrev w_X11_mine (cA : ClassId) (a_me a_page a_readRows a_readDraughts a_rows a_draughts a_gas a_heights a_steps a_menRows a_smoke a_lengths a_order a_bestOrder a_savedMen a_savedGas a_keptGas a_keptMenRows : Nat) (u_done : Int32) (u_seedNow : Int32) (u_keptMine : Int32) (u_keptMen : Int32) (u_keptShut : Int32) (u_keptMoon : Int32) (u_keptTime : Int32) (u_hash : Int64) (c_pageMany : Int32) (c_readMany : Int32) (c_readShafts : Int32) (c_readKnot : Int32) (c_state : Int32) (c_galleries : Int32) (c_minesRead : Int32) (c_moon : Int32) (c_time : Int32) (c_shut : Int32) (c_men : Int32) (c_page : A32) (c_readRows : A32) (c_readDraughts : A32) (c_rows : A32) (c_draughts : A32) (c_gas : A32) : va_W := [(a_me, .inr (11, [.ref a_page, .int c_pageMany, .ref a_readRows, .ref a_readDraughts, .int c_readMany, .int c_readShafts, .int c_readKnot, .int c_state, .int c_galleries, .int c_minesRead, .int c_moon, .int c_time, .ref a_rows, .ref a_draughts, .int c_shut, .ref a_gas, .ref a_heights, .ref a_steps, .int c_men, .ref a_menRows, .ref a_smoke, .int u_done, .ref a_lengths, .ref a_order, .ref a_bestOrder, .int u_seedNow, .ref a_savedMen, .ref a_savedGas, .int u_keptMine, .int u_keptMen, .int u_keptShut, .int u_keptMoon, .int u_keptTime, .ref a_keptGas, .ref a_keptMenRows, .long u_hash])), (a_page, .inl (cA, 66, .inl c_page)), (a_readRows, .inl (cA, 40, .inl c_readRows)), (a_readDraughts, .inl (cA, 7, .inl c_readDraughts)), (a_rows, .inl (cA, 40, .inl c_rows)), (a_draughts, .inl (cA, 7, .inl c_draughts)), (a_gas, .inl (cA, 7, .inl c_gas))]
theorem hd_X11_mine : yX11_mine.cls ≠ "java/lang/invoke/MethodHandle" ∧ yX11_mine.cls ≠ "java/lang/invoke/VarHandle" ∧ (parseMethodDescriptor yX11_mine.desc).map (fun d => d.parameters.length) = some 0 := by decide +kernel
theorem iw_X11_mine_X11 : ∀ w ∈ wsX110, w ∈ wsX11_mine := fun w h => List.mem_cons_of_mem _ (List.mem_append_right _ h)
theorem fl_X11_mine_X11_1 : Cond.fieldLink RX11 67 RX11 (TX11 1).2.1 (TX11 1).2.2.1 ∈ wsX11_mine := List.mem_of_getElem? (i := 1) rfl
theorem fl_X11_mine_X11_7 : Cond.fieldLink RX11 73 RX11 (TX11 7).2.1 (TX11 7).2.2.1 ∈ wsX11_mine := List.mem_of_getElem? (i := 2) rfl
theorem fl_X11_mine_X11_5 : Cond.fieldLink RX11 91 RX11 (TX11 5).2.1 (TX11 5).2.2.1 ∈ wsX11_mine := List.mem_of_getElem? (i := 3) rfl
theorem fl_X11_mine_X11_4 : Cond.fieldLink RX11 70 RX11 (TX11 4).2.1 (TX11 4).2.2.1 ∈ wsX11_mine := List.mem_of_getElem? (i := 4) rfl
theorem fl_X11_mine_X11_8 : Cond.fieldLink RX11 101 RX11 (TX11 8).2.1 (TX11 8).2.2.1 ∈ wsX11_mine := List.mem_of_getElem? (i := 5) rfl
theorem fl_X11_mine_X11_12 : Cond.fieldLink RX11 19 RX11 (TX11 12).2.1 (TX11 12).2.2.1 ∈ wsX11_mine := List.mem_of_getElem? (i := 6) rfl
theorem fl_X11_mine_X11_2 : Cond.fieldLink RX11 13 RX11 (TX11 2).2.1 (TX11 2).2.2.1 ∈ wsX11_mine := List.mem_of_getElem? (i := 7) rfl
theorem fl_X11_mine_X11_14 : Cond.fieldLink RX11 108 RX11 (TX11 14).2.1 (TX11 14).2.2.1 ∈ wsX11_mine := List.mem_of_getElem? (i := 11) rfl
theorem fl_X11_mine_X11_10 : Cond.fieldLink RX11 111 RX11 (TX11 10).2.1 (TX11 10).2.2.1 ∈ wsX11_mine := List.mem_of_getElem? (i := 12) rfl
theorem fl_X11_mine_X11_11 : Cond.fieldLink RX11 114 RX11 (TX11 11).2.1 (TX11 11).2.2.1 ∈ wsX11_mine := List.mem_of_getElem? (i := 13) rfl
theorem fl_X11_mine_X11_18 : Cond.fieldLink RX11 117 RX11 (TX11 18).2.1 (TX11 18).2.2.1 ∈ wsX11_mine := List.mem_of_getElem? (i := 14) rfl
theorem fl_X11_mine_X11_9 : Cond.fieldLink RX11 120 RX11 (TX11 9).2.1 (TX11 9).2.2.1 ∈ wsX11_mine := List.mem_of_getElem? (i := 15) rfl
theorem fl_X11_mine_X11_13 : Cond.fieldLink RX11 22 RX11 (TX11 13).2.1 (TX11 13).2.2.1 ∈ wsX11_mine := List.mem_of_getElem? (i := 8) rfl
theorem fl_X11_mine_X11_3 : Cond.fieldLink RX11 16 RX11 (TX11 3).2.1 (TX11 3).2.2.1 ∈ wsX11_mine := List.mem_of_getElem? (i := 9) rfl
theorem fl_X11_mine_X11_15 : Cond.fieldLink RX11 25 RX11 (TX11 15).2.1 (TX11 15).2.2.1 ∈ wsX11_mine := List.mem_of_getElem? (i := 10) rfl
set_option maxHeartbeats 4000000 in
set_option maxRecDepth 100000 in
theorem t_X11_mine_b70 {l : Launch} {D : va_G} {cA : ClassId} {p : Program} {e : Env} {s : State} {m : MethodId} {args : Array Value} {below : List Frame} {meth : Method} {c : Code} {A : Nat → Prop} {Q : State → Prop} {z : Int32 × Int32 × Int32 × Int32 × Int32 × Int32 × Int32 × Int32 × Int32 × Int32 × Int32 × Int32 × A32 × A32 × A32 × A32 × A32} {a_me a_page a_readRows a_readDraughts a_rows a_draughts a_gas a_heights a_steps a_menRows a_smoke a_lengths a_order a_bestOrder a_savedMen a_savedGas a_keptGas a_keptMenRows : Nat} {u_done : Int32} {u_seedNow : Int32} {u_keptMine : Int32} {u_keptMen : Int32} {u_keptShut : Int32} {u_keptMoon : Int32} {u_keptTime : Int32} {u_hash : Int64} {c_page : A32} {c_pageMany : Int32} {c_readMany : Int32} {c_readShafts : Int32} {c_readKnot : Int32} {c_state : Int32} {c_galleries : Int32} {c_minesRead : Int32} {c_moon : Int32} {c_time : Int32} {c_shut : Int32} {c_men : Int32} {c_readRows : A32} {c_readDraughts : A32} {c_rows : A32}  (X : GX p s m args c cX11_mine RX11 wsX11_mine D cA A 2) (hret : RtI p l e rm_X11_mine s m args below meth c cX11_mine D A 2 0 0 Q .int z.1 (w_X11_mine cA a_me a_page a_readRows a_readDraughts a_rows a_draughts a_gas a_heights a_steps a_menRows a_smoke a_lengths a_order a_bestOrder a_savedMen a_savedGas a_keptGas a_keptMenRows u_done u_seedNow u_keptMine u_keptMen u_keptShut u_keptMoon u_keptTime u_hash z.2.1 z.2.2.1 z.2.2.2.1 z.2.2.2.2.1 z.2.2.2.2.2.1 z.2.2.2.2.2.2.1 z.2.2.2.2.2.2.2.1 z.2.2.2.2.2.2.2.2.1 z.2.2.2.2.2.2.2.2.2.1 z.2.2.2.2.2.2.2.2.2.2.1 z.2.2.2.2.2.2.2.2.2.2.2.1 c_page z.2.2.2.2.2.2.2.2.2.2.2.2.1 z.2.2.2.2.2.2.2.2.2.2.2.2.2.1 z.2.2.2.2.2.2.2.2.2.2.2.2.2.2.1 z.2.2.2.2.2.2.2.2.2.2.2.2.2.2.2.1 z.2.2.2.2.2.2.2.2.2.2.2.2.2.2.2.2))  : ∀ (fu : Nat) (c_draughts : A32) (c_gas : A32) (v1 : Int32), f_X11_mine_b70 c_pageMany c_readMany c_readShafts c_readKnot c_state c_galleries c_minesRead c_moon c_time c_shut c_men c_readRows c_readDraughts c_rows fu c_draughts c_gas v1 = some z → G p l e rm_X11_mine s m args below meth c D A 2 0 0 Q 70 [(0, .ref a_me), (1, .int v1)] [] (w_X11_mine cA a_me a_page a_readRows a_readDraughts a_rows a_draughts a_gas a_heights a_steps a_menRows a_smoke a_lengths a_order a_bestOrder a_savedMen a_savedGas a_keptGas a_keptMenRows u_done u_seedNow u_keptMine u_keptMen u_keptShut u_keptMoon u_keptTime u_hash c_pageMany c_readMany c_readShafts c_readKnot c_state c_galleries c_minesRead c_moon c_time c_shut c_men c_page c_readRows c_readDraughts c_rows c_draughts c_gas) := by
  intro fu
  induction fu with
  | zero => intro c_draughts c_gas v1 h; exact absurd (show (none : Option (Int32 × Int32 × Int32 × Int32 × Int32 × Int32 × Int32 × Int32 × Int32 × Int32 × Int32 × Int32 × A32 × A32 × A32 × A32 × A32)) = some z from h) (by simp)
  | succ fu ih =>
    intro c_draughts c_gas v1 h
    have h : (if 7 ≤ v1 then nam (c_minesRead + 1) fun w_2 => some (c_galleries, 0, c_readMany, c_readShafts, c_readKnot, c_state, c_galleries, w_2, 0, 0, 0, 0, c_readRows, c_readDraughts, c_rows, c_draughts, c_gas) else if inB v1 7 then if inB v1 7 then if inB v1 7 then nam (v1 + 1) fun v1_3 => (f_X11_mine_b70 c_pageMany c_readMany c_readShafts c_readKnot c_state c_galleries c_minesRead c_moon c_time c_shut c_men c_readRows c_readDraughts c_rows fu) (upd c_draughts (Int32.toNatClampNeg v1) (c_readDraughts v1.toNatClampNeg)) (upd c_gas (Int32.toNatClampNeg v1) 0) v1_3 else none else none else none : Option (Int32 × Int32 × Int32 × Int32 × Int32 × Int32 × Int32 × Int32 × Int32 × Int32 × Int32 × Int32 × A32 × A32 × A32 × A32 × A32)) = some z := h
    refine g_iload_n X 1 rfl rfl dX11_mine_70 rfl ?_
    refine g_bipush (v := 7) X dX11_mine_71 (by decide) rfl ?_
    refine g_icmp_ge (tgt := 101) X dX11_mine_73 (by decide) rfl h (fun c_1 h => ?_) (fun c_1 h => ?_)
    · refine g_aload_n X 0 rfl rfl dX11_mine_101 rfl ?_
      refine g_iconst (v := 0) X dX11_mine_102 (by decide) rfl ?_
      refine g_putf (C := RX11) (T := TX11) (N := 36) (ty := .int) (ws' := (w_X11_mine cA a_me a_page a_readRows a_readDraughts a_rows a_draughts a_gas a_heights a_steps a_menRows a_smoke a_lengths a_order a_bestOrder a_savedMen a_savedGas a_keptGas a_keptMenRows u_done u_seedNow u_keptMine u_keptMen u_keptShut u_keptMoon u_keptTime u_hash c_pageMany c_readMany c_readShafts c_readKnot c_state c_galleries c_minesRead c_moon c_time 0 c_men c_page c_readRows c_readDraughts c_rows c_draughts c_gas)) X 0 tyX11 tyX11_ok nmX11 rfl vc_X11 14 (by decide) iw_X11_mine_X11 fl_X11_mine_X11_14 rfl rfl pd_X11_14 rfl rfl (Nat.le_of_ble_eq_true rfl) rfl dX11_mine_103 rfl ?_
      refine g_aload_n X 0 rfl rfl dX11_mine_106 rfl ?_
      refine g_iconst (v := 0) X dX11_mine_107 (by decide) rfl ?_
      refine g_putf (C := RX11) (T := TX11) (N := 36) (ty := .int) (ws' := (w_X11_mine cA a_me a_page a_readRows a_readDraughts a_rows a_draughts a_gas a_heights a_steps a_menRows a_smoke a_lengths a_order a_bestOrder a_savedMen a_savedGas a_keptGas a_keptMenRows u_done u_seedNow u_keptMine u_keptMen u_keptShut u_keptMoon u_keptTime u_hash c_pageMany c_readMany c_readShafts c_readKnot c_state c_galleries c_minesRead 0 c_time 0 c_men c_page c_readRows c_readDraughts c_rows c_draughts c_gas)) X 0 tyX11 tyX11_ok nmX11 rfl vc_X11 10 (by decide) iw_X11_mine_X11 fl_X11_mine_X11_10 rfl rfl pd_X11_10 rfl rfl (Nat.le_of_ble_eq_true rfl) rfl dX11_mine_108 rfl ?_
      refine g_aload_n X 0 rfl rfl dX11_mine_111 rfl ?_
      refine g_iconst (v := 0) X dX11_mine_112 (by decide) rfl ?_
      refine g_putf (C := RX11) (T := TX11) (N := 36) (ty := .int) (ws' := (w_X11_mine cA a_me a_page a_readRows a_readDraughts a_rows a_draughts a_gas a_heights a_steps a_menRows a_smoke a_lengths a_order a_bestOrder a_savedMen a_savedGas a_keptGas a_keptMenRows u_done u_seedNow u_keptMine u_keptMen u_keptShut u_keptMoon u_keptTime u_hash c_pageMany c_readMany c_readShafts c_readKnot c_state c_galleries c_minesRead 0 0 0 c_men c_page c_readRows c_readDraughts c_rows c_draughts c_gas)) X 0 tyX11 tyX11_ok nmX11 rfl vc_X11 11 (by decide) iw_X11_mine_X11 fl_X11_mine_X11_11 rfl rfl pd_X11_11 rfl rfl (Nat.le_of_ble_eq_true rfl) rfl dX11_mine_113 rfl ?_
      refine g_aload_n X 0 rfl rfl dX11_mine_116 rfl ?_
      refine g_iconst (v := 0) X dX11_mine_117 (by decide) rfl ?_
      refine g_putf (C := RX11) (T := TX11) (N := 36) (ty := .int) (ws' := (w_X11_mine cA a_me a_page a_readRows a_readDraughts a_rows a_draughts a_gas a_heights a_steps a_menRows a_smoke a_lengths a_order a_bestOrder a_savedMen a_savedGas a_keptGas a_keptMenRows u_done u_seedNow u_keptMine u_keptMen u_keptShut u_keptMoon u_keptTime u_hash c_pageMany c_readMany c_readShafts c_readKnot c_state c_galleries c_minesRead 0 0 0 0 c_page c_readRows c_readDraughts c_rows c_draughts c_gas)) X 0 tyX11 tyX11_ok nmX11 rfl vc_X11 18 (by decide) iw_X11_mine_X11 fl_X11_mine_X11_18 rfl rfl pd_X11_18 rfl rfl (Nat.le_of_ble_eq_true rfl) rfl dX11_mine_118 rfl ?_
      refine g_aload_n X 0 rfl rfl dX11_mine_121 rfl ?_
      refine g_dup X dX11_mine_122 rfl rfl ?_
      refine g_getf (C := RX11) (T := TX11) (N := 36) (v := .int c_minesRead) X 0 rfl vc_X11 9 (by decide) iw_X11_mine_X11 fl_X11_mine_X11_9 rfl rfl dX11_mine_123 rfl ?_
      refine g_iconst (v := 1) X dX11_mine_126 (by decide) rfl ?_
      refine g_iadd X dX11_mine_127 rfl ?_
      refine g_nami h (fun w_2 h => ?_)
      refine g_putf (C := RX11) (T := TX11) (N := 36) (ty := .int) (ws' := (w_X11_mine cA a_me a_page a_readRows a_readDraughts a_rows a_draughts a_gas a_heights a_steps a_menRows a_smoke a_lengths a_order a_bestOrder a_savedMen a_savedGas a_keptGas a_keptMenRows u_done u_seedNow u_keptMine u_keptMen u_keptShut u_keptMoon u_keptTime u_hash c_pageMany c_readMany c_readShafts c_readKnot c_state c_galleries w_2 0 0 0 0 c_page c_readRows c_readDraughts c_rows c_draughts c_gas)) X 0 tyX11 tyX11_ok nmX11 rfl vc_X11 9 (by decide) iw_X11_mine_X11 fl_X11_mine_X11_9 rfl rfl pd_X11_9 rfl rfl (Nat.le_of_ble_eq_true rfl) rfl dX11_mine_128 rfl ?_
      refine g_aload_n X 0 rfl rfl dX11_mine_131 rfl ?_
      refine g_iconst (v := 0) X dX11_mine_132 (by decide) rfl ?_
      refine g_putf (C := RX11) (T := TX11) (N := 36) (ty := .int) (ws' := (w_X11_mine cA a_me a_page a_readRows a_readDraughts a_rows a_draughts a_gas a_heights a_steps a_menRows a_smoke a_lengths a_order a_bestOrder a_savedMen a_savedGas a_keptGas a_keptMenRows u_done u_seedNow u_keptMine u_keptMen u_keptShut u_keptMoon u_keptTime u_hash 0 c_readMany c_readShafts c_readKnot c_state c_galleries w_2 0 0 0 0 c_page c_readRows c_readDraughts c_rows c_draughts c_gas)) X 0 tyX11 tyX11_ok nmX11 rfl vc_X11 1 (by decide) iw_X11_mine_X11 fl_X11_mine_X11_1 rfl rfl pd_X11_1 rfl rfl (Nat.le_of_ble_eq_true rfl) rfl dX11_mine_133 rfl ?_
      refine g_aload_n X 0 rfl rfl dX11_mine_136 rfl ?_
      refine g_getf (C := RX11) (T := TX11) (N := 36) (v := .int c_galleries) X 0 rfl vc_X11 8 (by decide) iw_X11_mine_X11 fl_X11_mine_X11_8 rfl rfl dX11_mine_137 rfl ?_
      cases Option.some.inj h
      exact hret _ _ dX11_mine_140 rfl
    · refine g_aload_n X 0 rfl rfl dX11_mine_76 rfl ?_
      refine g_getf (C := RX11) (T := TX11) (N := 36) (v := .ref a_draughts) X 0 rfl vc_X11 13 (by decide) iw_X11_mine_X11 fl_X11_mine_X11_13 rfl rfl dX11_mine_77 rfl ?_
      refine g_iload_n X 1 rfl rfl dX11_mine_80 rfl ?_
      refine g_aload_n X 0 rfl rfl dX11_mine_81 rfl ?_
      refine g_getf (C := RX11) (T := TX11) (N := 36) (v := .ref a_readDraughts) X 0 rfl vc_X11 3 (by decide) iw_X11_mine_X11 fl_X11_mine_X11_3 rfl rfl dX11_mine_82 rfl ?_
      refine g_iload_n X 1 rfl rfl dX11_mine_85 rfl ?_
      refine g_iald X 3 rfl dX11_mine_86 rfl h (fun h => ?_)
      refine g_iast (ws' := (w_X11_mine cA a_me a_page a_readRows a_readDraughts a_rows a_draughts a_gas a_heights a_steps a_menRows a_smoke a_lengths a_order a_bestOrder a_savedMen a_savedGas a_keptGas a_keptMenRows u_done u_seedNow u_keptMine u_keptMen u_keptShut u_keptMoon u_keptTime u_hash c_pageMany c_readMany c_readShafts c_readKnot c_state c_galleries c_minesRead c_moon c_time c_shut c_men c_page c_readRows c_readDraughts c_rows (upd c_draughts (Int32.toNatClampNeg v1) (c_readDraughts v1.toNatClampNeg)) c_gas)) X 5 rfl rfl dX11_mine_87 rfl h (fun h => ?_)
      refine g_aload_n X 0 rfl rfl dX11_mine_88 rfl ?_
      refine g_getf (C := RX11) (T := TX11) (N := 36) (v := .ref a_gas) X 0 rfl vc_X11 15 (by decide) iw_X11_mine_X11 fl_X11_mine_X11_15 rfl rfl dX11_mine_89 rfl ?_
      refine g_iload_n X 1 rfl rfl dX11_mine_92 rfl ?_
      refine g_iconst (v := 0) X dX11_mine_93 (by decide) rfl ?_
      refine g_iast (ws' := (w_X11_mine cA a_me a_page a_readRows a_readDraughts a_rows a_draughts a_gas a_heights a_steps a_menRows a_smoke a_lengths a_order a_bestOrder a_savedMen a_savedGas a_keptGas a_keptMenRows u_done u_seedNow u_keptMine u_keptMen u_keptShut u_keptMoon u_keptTime u_hash c_pageMany c_readMany c_readShafts c_readKnot c_state c_galleries c_minesRead c_moon c_time c_shut c_men c_page c_readRows c_readDraughts c_rows (upd c_draughts (Int32.toNatClampNeg v1) (c_readDraughts v1.toNatClampNeg)) (upd c_gas (Int32.toNatClampNeg v1) 0))) X 6 rfl rfl dX11_mine_94 rfl h (fun h => ?_)
      obtain ⟨v1_3, ev1_3, h⟩ := nam_s h
      refine g_iinc (v := v1_3) (lv' := [(1, .int v1_3), (0, .ref a_me)]) X 1 rfl (by rw [ev1_3]; rfl) (by decide) rfl dX11_mine_95 rfl ?_
      refine g_goto (tgt := 70) X dX11_mine_98 (by decide) ?_
      refine g_lvs [1, 0] rfl ?_
      exact ih _ _ _ h
set_option maxHeartbeats 4000000 in
set_option maxRecDepth 100000 in
theorem t_X11_mine_b40 {l : Launch} {D : va_G} {cA : ClassId} {p : Program} {e : Env} {s : State} {m : MethodId} {args : Array Value} {below : List Frame} {meth : Method} {c : Code} {A : Nat → Prop} {Q : State → Prop} {z : Int32 × Int32 × Int32 × Int32 × Int32 × Int32 × Int32 × Int32 × Int32 × Int32 × Int32 × Int32 × A32 × A32 × A32 × A32 × A32} {a_me a_page a_readRows a_readDraughts a_rows a_draughts a_gas a_heights a_steps a_menRows a_smoke a_lengths a_order a_bestOrder a_savedMen a_savedGas a_keptGas a_keptMenRows : Nat} {u_done : Int32} {u_seedNow : Int32} {u_keptMine : Int32} {u_keptMen : Int32} {u_keptShut : Int32} {u_keptMoon : Int32} {u_keptTime : Int32} {u_hash : Int64} {c_page : A32} {c_pageMany : Int32} {c_readMany : Int32} {c_readShafts : Int32} {c_readKnot : Int32} {c_state : Int32} {c_galleries : Int32} {c_minesRead : Int32} {c_moon : Int32} {c_time : Int32} {c_shut : Int32} {c_men : Int32} {c_readRows : A32} {c_readDraughts : A32} {c_draughts : A32} {c_gas : A32}  (X : GX p s m args c cX11_mine RX11 wsX11_mine D cA A 2) (hret : RtI p l e rm_X11_mine s m args below meth c cX11_mine D A 2 0 0 Q .int z.1 (w_X11_mine cA a_me a_page a_readRows a_readDraughts a_rows a_draughts a_gas a_heights a_steps a_menRows a_smoke a_lengths a_order a_bestOrder a_savedMen a_savedGas a_keptGas a_keptMenRows u_done u_seedNow u_keptMine u_keptMen u_keptShut u_keptMoon u_keptTime u_hash z.2.1 z.2.2.1 z.2.2.2.1 z.2.2.2.2.1 z.2.2.2.2.2.1 z.2.2.2.2.2.2.1 z.2.2.2.2.2.2.2.1 z.2.2.2.2.2.2.2.2.1 z.2.2.2.2.2.2.2.2.2.1 z.2.2.2.2.2.2.2.2.2.2.1 z.2.2.2.2.2.2.2.2.2.2.2.1 c_page z.2.2.2.2.2.2.2.2.2.2.2.2.1 z.2.2.2.2.2.2.2.2.2.2.2.2.2.1 z.2.2.2.2.2.2.2.2.2.2.2.2.2.2.1 z.2.2.2.2.2.2.2.2.2.2.2.2.2.2.2.1 z.2.2.2.2.2.2.2.2.2.2.2.2.2.2.2.2))  : ∀ (fu : Nat) (c_rows : A32) (v1 : Int32), f_X11_mine_b40 c_pageMany c_readMany c_readShafts c_readKnot c_state c_galleries c_minesRead c_moon c_time c_shut c_men c_readRows c_readDraughts c_draughts c_gas fu c_rows v1 = some z → G p l e rm_X11_mine s m args below meth c D A 2 0 0 Q 40 [(0, .ref a_me), (1, .int v1)] [] (w_X11_mine cA a_me a_page a_readRows a_readDraughts a_rows a_draughts a_gas a_heights a_steps a_menRows a_smoke a_lengths a_order a_bestOrder a_savedMen a_savedGas a_keptGas a_keptMenRows u_done u_seedNow u_keptMine u_keptMen u_keptShut u_keptMoon u_keptTime u_hash c_pageMany c_readMany c_readShafts c_readKnot c_state c_galleries c_minesRead c_moon c_time c_shut c_men c_page c_readRows c_readDraughts c_rows c_draughts c_gas) := by
  intro fu
  induction fu with
  | zero => intro c_rows v1 h; exact absurd (show (none : Option (Int32 × Int32 × Int32 × Int32 × Int32 × Int32 × Int32 × Int32 × Int32 × Int32 × Int32 × Int32 × A32 × A32 × A32 × A32 × A32)) = some z from h) (by simp)
  | succ fu ih =>
    intro c_rows v1 h
    have h : (if (4 * c_galleries) ≤ v1 then f_X11_mine_b70 c_pageMany c_readMany c_readShafts c_readKnot c_state c_galleries c_minesRead c_moon c_time c_shut c_men c_readRows c_readDraughts c_rows FU c_draughts c_gas 0 else if inB v1 40 then if inB v1 40 then nam (v1 + 1) fun v1_2 => (f_X11_mine_b40 c_pageMany c_readMany c_readShafts c_readKnot c_state c_galleries c_minesRead c_moon c_time c_shut c_men c_readRows c_readDraughts c_draughts c_gas fu) (upd c_rows (Int32.toNatClampNeg v1) (c_readRows v1.toNatClampNeg)) v1_2 else none else none : Option (Int32 × Int32 × Int32 × Int32 × Int32 × Int32 × Int32 × Int32 × Int32 × Int32 × Int32 × Int32 × A32 × A32 × A32 × A32 × A32)) = some z := h
    refine g_iload_n X 1 rfl rfl dX11_mine_40 rfl ?_
    refine g_iconst (v := 4) X dX11_mine_41 (by decide) rfl ?_
    refine g_aload_n X 0 rfl rfl dX11_mine_42 rfl ?_
    refine g_getf (C := RX11) (T := TX11) (N := 36) (v := .int c_galleries) X 0 rfl vc_X11 8 (by decide) iw_X11_mine_X11 fl_X11_mine_X11_8 rfl rfl dX11_mine_43 rfl ?_
    refine g_imul X dX11_mine_46 rfl ?_
    refine g_icmp_ge (tgt := 68) X dX11_mine_47 (by decide) rfl h (fun c_1 h => ?_) (fun c_1 h => ?_)
    · refine g_iconst (v := 0) X dX11_mine_68 (by decide) rfl ?_
      refine g_istore_n (lv' := [(1, .int 0), (0, .ref a_me)]) X rfl (by decide) rfl dX11_mine_69 rfl ?_
      refine g_lvs [1, 0] rfl ?_
      exact t_X11_mine_b70 X hret _ _ _ _ h
    · refine g_aload_n X 0 rfl rfl dX11_mine_50 rfl ?_
      refine g_getf (C := RX11) (T := TX11) (N := 36) (v := .ref a_rows) X 0 rfl vc_X11 12 (by decide) iw_X11_mine_X11 fl_X11_mine_X11_12 rfl rfl dX11_mine_51 rfl ?_
      refine g_iload_n X 1 rfl rfl dX11_mine_54 rfl ?_
      refine g_aload_n X 0 rfl rfl dX11_mine_55 rfl ?_
      refine g_getf (C := RX11) (T := TX11) (N := 36) (v := .ref a_readRows) X 0 rfl vc_X11 2 (by decide) iw_X11_mine_X11 fl_X11_mine_X11_2 rfl rfl dX11_mine_56 rfl ?_
      refine g_iload_n X 1 rfl rfl dX11_mine_59 rfl ?_
      refine g_iald X 2 rfl dX11_mine_60 rfl h (fun h => ?_)
      refine g_iast (ws' := (w_X11_mine cA a_me a_page a_readRows a_readDraughts a_rows a_draughts a_gas a_heights a_steps a_menRows a_smoke a_lengths a_order a_bestOrder a_savedMen a_savedGas a_keptGas a_keptMenRows u_done u_seedNow u_keptMine u_keptMen u_keptShut u_keptMoon u_keptTime u_hash c_pageMany c_readMany c_readShafts c_readKnot c_state c_galleries c_minesRead c_moon c_time c_shut c_men c_page c_readRows c_readDraughts (upd c_rows (Int32.toNatClampNeg v1) (c_readRows v1.toNatClampNeg)) c_draughts c_gas)) X 4 rfl rfl dX11_mine_61 rfl h (fun h => ?_)
      obtain ⟨v1_2, ev1_2, h⟩ := nam_s h
      refine g_iinc (v := v1_2) (lv' := [(1, .int v1_2), (0, .ref a_me)]) X 1 rfl (by rw [ev1_2]; rfl) (by decide) rfl dX11_mine_62 rfl ?_
      refine g_goto (tgt := 40) X dX11_mine_65 (by decide) ?_
      refine g_lvs [1, 0] rfl ?_
      exact ih _ _ h
set_option maxHeartbeats 4000000 in
set_option maxRecDepth 100000 in
theorem c_X11_mine (l : Launch) (D : va_G) (cA : ClassId) (a_me a_page a_readRows a_readDraughts a_rows a_draughts a_gas a_heights a_steps a_menRows a_smoke a_lengths a_order a_bestOrder a_savedMen a_savedGas a_keptGas a_keptMenRows : Nat) (u_done : Int32) (u_seedNow : Int32) (u_keptMine : Int32) (u_keptMen : Int32) (u_keptShut : Int32) (u_keptMoon : Int32) (u_keptTime : Int32) (u_hash : Int64) (c_pageMany : Int32) (c_readMany : Int32) (c_readShafts : Int32) (c_readKnot : Int32) (c_state : Int32) (c_galleries : Int32) (c_minesRead : Int32) (c_moon : Int32) (c_time : Int32) (c_shut : Int32) (c_men : Int32) (c_page : A32) (c_readRows : A32) (c_readDraughts : A32) (c_rows : A32) (c_draughts : A32) (c_gas : A32) (z : Int32 × Int32 × Int32 × Int32 × Int32 × Int32 × Int32 × Int32 × Int32 × Int32 × Int32 × Int32 × A32 × A32 × A32 × A32 × A32) (h : f_X11_mine c_pageMany c_readMany c_readShafts c_readKnot c_state c_galleries c_minesRead c_moon c_time c_shut c_men c_page c_readRows c_readDraughts c_rows c_draughts c_gas = some z) : CtI l yX11_mine wsX11_mine rm_X11_mine D cA [.ref a_me] (w_X11_mine cA a_me a_page a_readRows a_readDraughts a_rows a_draughts a_gas a_heights a_steps a_menRows a_smoke a_lengths a_order a_bestOrder a_savedMen a_savedGas a_keptGas a_keptMenRows u_done u_seedNow u_keptMine u_keptMen u_keptShut u_keptMoon u_keptTime u_hash c_pageMany c_readMany c_readShafts c_readKnot c_state c_galleries c_minesRead c_moon c_time c_shut c_men c_page c_readRows c_readDraughts c_rows c_draughts c_gas) z.1 (w_X11_mine cA a_me a_page a_readRows a_readDraughts a_rows a_draughts a_gas a_heights a_steps a_menRows a_smoke a_lengths a_order a_bestOrder a_savedMen a_savedGas a_keptGas a_keptMenRows u_done u_seedNow u_keptMine u_keptMen u_keptShut u_keptMoon u_keptTime u_hash z.2.1 z.2.2.1 z.2.2.2.1 z.2.2.2.2.1 z.2.2.2.2.2.1 z.2.2.2.2.2.2.1 z.2.2.2.2.2.2.2.1 z.2.2.2.2.2.2.2.2.1 z.2.2.2.2.2.2.2.2.2.1 z.2.2.2.2.2.2.2.2.2.2.1 z.2.2.2.2.2.2.2.2.2.2.2.1 c_page z.2.2.2.2.2.2.2.2.2.2.2.2.1 z.2.2.2.2.2.2.2.2.2.2.2.2.2.1 z.2.2.2.2.2.2.2.2.2.2.2.2.2.2.1 z.2.2.2.2.2.2.2.2.2.2.2.2.2.2.2.1 z.2.2.2.2.2.2.2.2.2.2.2.2.2.2.2.2) := by
  refine ct_I (maxL := 2) (ty := .int) (cc := cX11_mine) (by decide) rfl (Nat.le_of_ble_eq_true rfl) rfl (fun p e s m args below meth c A Q X hret => ?_)
  have h : (Option.bind (f_X11_faultOf c_pageMany c_readMany c_readShafts c_readKnot c_state c_page c_readRows c_readDraughts) fun z_1 => if z_1.1 < c_pageMany then some ((-103), c_pageMany, z_1.2.1, z_1.2.2.1, z_1.2.2.2.1, z_1.2.2.2.2.1, c_galleries, c_minesRead, c_moon, c_time, c_shut, c_men, z_1.2.2.2.2.2.1, z_1.2.2.2.2.2.2, c_rows, c_draughts, c_gas) else if z_1.2.2.2.2.1 = 5 then if 2 ≤ z_1.2.2.1 then f_X11_mine_b40 c_pageMany z_1.2.1 z_1.2.2.1 z_1.2.2.2.1 z_1.2.2.2.2.1 z_1.2.1 c_minesRead c_moon c_time c_shut c_men z_1.2.2.2.2.2.1 z_1.2.2.2.2.2.2 c_draughts c_gas FU c_rows 0 else some ((-103), c_pageMany, z_1.2.1, z_1.2.2.1, z_1.2.2.2.1, z_1.2.2.2.2.1, c_galleries, c_minesRead, c_moon, c_time, c_shut, c_men, z_1.2.2.2.2.2.1, z_1.2.2.2.2.2.2, c_rows, c_draughts, c_gas) else some ((-103), c_pageMany, z_1.2.1, z_1.2.2.1, z_1.2.2.2.1, z_1.2.2.2.2.1, c_galleries, c_minesRead, c_moon, c_time, c_shut, c_men, z_1.2.2.2.2.2.1, z_1.2.2.2.2.2.2, c_rows, c_draughts, c_gas) : Option (Int32 × Int32 × Int32 × Int32 × Int32 × Int32 × Int32 × Int32 × Int32 × Int32 × Int32 × Int32 × A32 × A32 × A32 × A32 × A32)) = some z := h
  refine g_aload_n X 0 rfl rfl dX11_mine_0 rfl ?_
  obtain ⟨z_1, hz_1, h⟩ := bnd_s h
  refine g_callVI (rm := rm_X11_faultOf) (As := []) (r := z_1.1) (W0 := (w_X11_faultOf cA a_me a_page a_readRows a_readDraughts a_rows a_draughts a_gas a_heights a_steps a_menRows a_smoke a_lengths a_order a_bestOrder a_savedMen a_savedGas a_keptGas a_keptMenRows c_galleries c_minesRead c_moon c_time c_shut c_men u_done u_seedNow u_keptMine u_keptMen u_keptShut u_keptMoon u_keptTime u_hash c_pageMany c_readMany c_readShafts c_readKnot c_state c_page c_readRows c_readDraughts)) (W1 := (w_X11_faultOf cA a_me a_page a_readRows a_readDraughts a_rows a_draughts a_gas a_heights a_steps a_menRows a_smoke a_lengths a_order a_bestOrder a_savedMen a_savedGas a_keptGas a_keptMenRows c_galleries c_minesRead c_moon c_time c_shut c_men u_done u_seedNow u_keptMine u_keptMen u_keptShut u_keptMoon u_keptTime u_hash c_pageMany z_1.2.1 z_1.2.2.1 z_1.2.2.2.1 z_1.2.2.2.2.1 c_page z_1.2.2.2.2.2.1 z_1.2.2.2.2.2.2)) (isC := [0, 1, 2, 3]) (isR := [4, 5, 6]) (perm := [3, 4, 5, 6, 0, 1, 2]) (ws' := (w_X11_mine cA a_me a_page a_readRows a_readDraughts a_rows a_draughts a_gas a_heights a_steps a_menRows a_smoke a_lengths a_order a_bestOrder a_savedMen a_savedGas a_keptGas a_keptMenRows u_done u_seedNow u_keptMine u_keptMen u_keptShut u_keptMoon u_keptTime u_hash c_pageMany z_1.2.1 z_1.2.2.1 z_1.2.2.2.1 z_1.2.2.2.2.1 c_galleries c_minesRead c_moon c_time c_shut c_men c_page z_1.2.2.2.2.2.1 z_1.2.2.2.2.2.2 c_rows c_draughts c_gas)) X (c_X11_faultOf l D cA a_me a_page a_readRows a_readDraughts a_rows a_draughts a_gas a_heights a_steps a_menRows a_smoke a_lengths a_order a_bestOrder a_savedMen a_savedGas a_keptGas a_keptMenRows c_galleries c_minesRead c_moon c_time c_shut c_men u_done u_seedNow u_keptMine u_keptMen u_keptShut u_keptMoon u_keptTime u_hash c_pageMany c_readMany c_readShafts c_readKnot c_state c_page c_readRows c_readDraughts _ hz_1) 0 rfl rfl rfl gX11_mine_X11_faultOf rfl rfl rfl ⟨rfl, hd_X11_faultOf⟩ ⟨Nat.le_of_ble_eq_true rfl, Nat.le_of_ble_eq_true rfl⟩ rfl rfl (Nat.le_of_ble_eq_true rfl) rfl (by decide) rfl (by decide) (by decide) ⟨Nat.zero_le _, Nat.zero_le _⟩ rfl (by decide) dX11_mine_1 rfl ?_
  refine g_aload_n X 0 rfl rfl dX11_mine_4 rfl ?_
  refine g_getf (C := RX11) (T := TX11) (N := 36) (v := .int c_pageMany) X 0 rfl vc_X11 1 (by decide) iw_X11_mine_X11 fl_X11_mine_X11_1 rfl rfl dX11_mine_5 rfl ?_
  refine g_icmp_lt (tgt := 27) X dX11_mine_8 (by decide) rfl h (fun c_2 h => ?_) (fun c_2 h => ?_)
  · refine g_bipush (v := (-103)) X dX11_mine_27 (by decide) rfl ?_
    cases Option.some.inj h
    exact hret _ _ dX11_mine_29 rfl
  · refine g_aload_n X 0 rfl rfl dX11_mine_11 rfl ?_
    refine g_getf (C := RX11) (T := TX11) (N := 36) (v := .int z_1.2.2.2.2.1) X 0 rfl vc_X11 7 (by decide) iw_X11_mine_X11 fl_X11_mine_X11_7 rfl rfl dX11_mine_12 rfl ?_
    refine g_iconst (v := 5) X dX11_mine_15 (by decide) rfl ?_
    refine g_icmp_ne (tgt := 27) X dX11_mine_16 (by decide) rfl h (fun c_3 h => ?_) (fun c_3 h => ?_)
    · refine g_bipush (v := (-103)) X dX11_mine_27 (by decide) rfl ?_
      cases Option.some.inj h
      exact hret _ _ dX11_mine_29 rfl
    · refine g_aload_n X 0 rfl rfl dX11_mine_19 rfl ?_
      refine g_getf (C := RX11) (T := TX11) (N := 36) (v := .int z_1.2.2.1) X 0 rfl vc_X11 5 (by decide) iw_X11_mine_X11 fl_X11_mine_X11_5 rfl rfl dX11_mine_20 rfl ?_
      refine g_iconst (v := 2) X dX11_mine_23 (by decide) rfl ?_
      refine g_icmp_ge (tgt := 30) X dX11_mine_24 (by decide) rfl h (fun c_4 h => ?_) (fun c_4 h => ?_)
      · refine g_aload_n X 0 rfl rfl dX11_mine_30 rfl ?_
        refine g_aload_n X 0 rfl rfl dX11_mine_31 rfl ?_
        refine g_getf (C := RX11) (T := TX11) (N := 36) (v := .int z_1.2.1) X 0 rfl vc_X11 4 (by decide) iw_X11_mine_X11 fl_X11_mine_X11_4 rfl rfl dX11_mine_32 rfl ?_
        refine g_putf (C := RX11) (T := TX11) (N := 36) (ty := .int) (ws' := (w_X11_mine cA a_me a_page a_readRows a_readDraughts a_rows a_draughts a_gas a_heights a_steps a_menRows a_smoke a_lengths a_order a_bestOrder a_savedMen a_savedGas a_keptGas a_keptMenRows u_done u_seedNow u_keptMine u_keptMen u_keptShut u_keptMoon u_keptTime u_hash c_pageMany z_1.2.1 z_1.2.2.1 z_1.2.2.2.1 z_1.2.2.2.2.1 z_1.2.1 c_minesRead c_moon c_time c_shut c_men c_page z_1.2.2.2.2.2.1 z_1.2.2.2.2.2.2 c_rows c_draughts c_gas)) X 0 tyX11 tyX11_ok nmX11 rfl vc_X11 8 (by decide) iw_X11_mine_X11 fl_X11_mine_X11_8 rfl rfl pd_X11_8 rfl rfl (Nat.le_of_ble_eq_true rfl) rfl dX11_mine_35 rfl ?_
        refine g_iconst (v := 0) X dX11_mine_38 (by decide) rfl ?_
        refine g_istore_n (lv' := [(1, .int 0), (0, .ref a_me)]) X rfl (by decide) rfl dX11_mine_39 rfl ?_
        refine g_lvs [1, 0] rfl ?_
        exact t_X11_mine_b40 X hret _ _ _ h
      · refine g_bipush (v := (-103)) X dX11_mine_27 (by decide) rfl ?_
        cases Option.some.inj h
        exact hret _ _ dX11_mine_29 rfl
abbrev rm_X11_isOpen : Room := { frames := 0, cells := 0, slots := 0, locals := 0 }
abbrev w_X11_isOpen (cA : ClassId) (a_me a_page a_readRows a_readDraughts a_rows a_draughts a_gas a_heights a_steps a_menRows a_smoke a_lengths a_order a_bestOrder a_savedMen a_savedGas a_keptGas a_keptMenRows : Nat) (u_pageMany : Int32) (u_readMany : Int32) (u_readShafts : Int32) (u_readKnot : Int32) (u_state : Int32) (u_galleries : Int32) (u_minesRead : Int32) (u_moon : Int32) (u_time : Int32) (u_men : Int32) (u_done : Int32) (u_seedNow : Int32) (u_keptMine : Int32) (u_keptMen : Int32) (u_keptShut : Int32) (u_keptMoon : Int32) (u_keptTime : Int32) (u_hash : Int64) (c_shut : Int32) : va_W := [(a_me, .inr (11, [.ref a_page, .int u_pageMany, .ref a_readRows, .ref a_readDraughts, .int u_readMany, .int u_readShafts, .int u_readKnot, .int u_state, .int u_galleries, .int u_minesRead, .int u_moon, .int u_time, .ref a_rows, .ref a_draughts, .int c_shut, .ref a_gas, .ref a_heights, .ref a_steps, .int u_men, .ref a_menRows, .ref a_smoke, .int u_done, .ref a_lengths, .ref a_order, .ref a_bestOrder, .int u_seedNow, .ref a_savedMen, .ref a_savedGas, .int u_keptMine, .int u_keptMen, .int u_keptShut, .int u_keptMoon, .int u_keptTime, .ref a_keptGas, .ref a_keptMenRows, .long u_hash]))]
theorem hd_X11_isOpen : yX11_isOpen.cls ≠ "java/lang/invoke/MethodHandle" ∧ yX11_isOpen.cls ≠ "java/lang/invoke/VarHandle" ∧ (parseMethodDescriptor yX11_isOpen.desc).map (fun d => d.parameters.length) = some 1 := by decide +kernel
theorem iw_X11_isOpen_X11 : ∀ w ∈ wsX110, w ∈ wsX11_isOpen := fun w h => List.mem_cons_of_mem _ (List.mem_append_right _ h)
theorem fl_X11_isOpen_X11_14 : Cond.fieldLink RX11 108 RX11 (TX11 14).2.1 (TX11 14).2.2.1 ∈ wsX11_isOpen := List.mem_of_getElem? (i := 1) rfl
set_option maxHeartbeats 4000000 in
set_option maxRecDepth 100000 in
theorem c_X11_isOpen (l : Launch) (D : va_G) (cA : ClassId) (a_me a_page a_readRows a_readDraughts a_rows a_draughts a_gas a_heights a_steps a_menRows a_smoke a_lengths a_order a_bestOrder a_savedMen a_savedGas a_keptGas a_keptMenRows : Nat) (u_pageMany : Int32) (u_readMany : Int32) (u_readShafts : Int32) (u_readKnot : Int32) (u_state : Int32) (u_galleries : Int32) (u_minesRead : Int32) (u_moon : Int32) (u_time : Int32) (u_men : Int32) (u_done : Int32) (u_seedNow : Int32) (u_keptMine : Int32) (u_keptMen : Int32) (u_keptShut : Int32) (u_keptMoon : Int32) (u_keptTime : Int32) (u_hash : Int64) (c_shut : Int32) (v1 : Int32) (z : Int32) (h : f_X11_isOpen c_shut v1 = some z) : CtI l yX11_isOpen wsX11_isOpen rm_X11_isOpen D cA [.ref a_me, .int v1] (w_X11_isOpen cA a_me a_page a_readRows a_readDraughts a_rows a_draughts a_gas a_heights a_steps a_menRows a_smoke a_lengths a_order a_bestOrder a_savedMen a_savedGas a_keptGas a_keptMenRows u_pageMany u_readMany u_readShafts u_readKnot u_state u_galleries u_minesRead u_moon u_time u_men u_done u_seedNow u_keptMine u_keptMen u_keptShut u_keptMoon u_keptTime u_hash c_shut) z (w_X11_isOpen cA a_me a_page a_readRows a_readDraughts a_rows a_draughts a_gas a_heights a_steps a_menRows a_smoke a_lengths a_order a_bestOrder a_savedMen a_savedGas a_keptGas a_keptMenRows u_pageMany u_readMany u_readShafts u_readKnot u_state u_galleries u_minesRead u_moon u_time u_men u_done u_seedNow u_keptMine u_keptMen u_keptShut u_keptMoon u_keptTime u_hash c_shut) := by
  refine ct_I (maxL := 2) (ty := .boolean) (cc := cX11_isOpen) (by decide) rfl (Nat.le_of_ble_eq_true rfl) rfl (fun p e s m args below meth c A Q X hret => ?_)
  have h : (if ((c_shut >>> (v1 &&& 31)) &&& 1) = 0 then some 1 else some 0 : Option (Int32)) = some z := h
  refine g_aload_n X 0 rfl rfl dX11_isOpen_0 rfl ?_
  refine g_getf (C := RX11) (T := TX11) (N := 36) (v := .int c_shut) X 0 rfl vc_X11 14 (by decide) iw_X11_isOpen_X11 fl_X11_isOpen_X11_14 rfl rfl dX11_isOpen_1 rfl ?_
  refine g_iload_n X 1 rfl rfl dX11_isOpen_4 rfl ?_
  refine g_ishr X dX11_isOpen_5 rfl ?_
  refine g_iconst (v := 1) X dX11_isOpen_6 (by decide) rfl ?_
  refine g_iand X dX11_isOpen_7 rfl ?_
  refine g_if_ne (tgt := 15) X dX11_isOpen_8 (by decide) rfl h (fun c_1 h => ?_) (fun c_1 h => ?_)
  · refine g_iconst (v := 0) X dX11_isOpen_15 (by decide) rfl ?_
    cases Option.some.inj h
    exact hret _ _ dX11_isOpen_16 (nar_z (Or.inl rfl))
  · refine g_iconst (v := 1) X dX11_isOpen_11 (by decide) rfl ?_
    refine g_goto (tgt := 16) X dX11_isOpen_12 (by decide) ?_
    cases Option.some.inj h
    exact hret _ _ dX11_isOpen_16 (nar_z (Or.inr rfl))
abbrev rm_X11_otherEnd : Room := { frames := 0, cells := 0, slots := 0, locals := 0 }
abbrev w_X11_otherEnd (cA : ClassId) (a_me a_page a_readRows a_readDraughts a_rows a_draughts a_gas a_heights a_steps a_menRows a_smoke a_lengths a_order a_bestOrder a_savedMen a_savedGas a_keptGas a_keptMenRows : Nat) (u_pageMany : Int32) (u_readMany : Int32) (u_readShafts : Int32) (u_readKnot : Int32) (u_state : Int32) (u_galleries : Int32) (u_minesRead : Int32) (u_moon : Int32) (u_time : Int32) (u_shut : Int32) (u_men : Int32) (u_done : Int32) (u_seedNow : Int32) (u_keptMine : Int32) (u_keptMen : Int32) (u_keptShut : Int32) (u_keptMoon : Int32) (u_keptTime : Int32) (u_hash : Int64) (c_rows : A32) : va_W := [(a_me, .inr (11, [.ref a_page, .int u_pageMany, .ref a_readRows, .ref a_readDraughts, .int u_readMany, .int u_readShafts, .int u_readKnot, .int u_state, .int u_galleries, .int u_minesRead, .int u_moon, .int u_time, .ref a_rows, .ref a_draughts, .int u_shut, .ref a_gas, .ref a_heights, .ref a_steps, .int u_men, .ref a_menRows, .ref a_smoke, .int u_done, .ref a_lengths, .ref a_order, .ref a_bestOrder, .int u_seedNow, .ref a_savedMen, .ref a_savedGas, .int u_keptMine, .int u_keptMen, .int u_keptShut, .int u_keptMoon, .int u_keptTime, .ref a_keptGas, .ref a_keptMenRows, .long u_hash])), (a_rows, .inl (cA, 40, .inl c_rows))]
theorem hd_X11_otherEnd : yX11_otherEnd.cls ≠ "java/lang/invoke/MethodHandle" ∧ yX11_otherEnd.cls ≠ "java/lang/invoke/VarHandle" ∧ (parseMethodDescriptor yX11_otherEnd.desc).map (fun d => d.parameters.length) = some 2 := by decide +kernel
theorem iw_X11_otherEnd_X11 : ∀ w ∈ wsX110, w ∈ wsX11_otherEnd := fun w h => List.mem_cons_of_mem _ (List.mem_append_right _ h)
theorem fl_X11_otherEnd_X11_12 : Cond.fieldLink RX11 19 RX11 (TX11 12).2.1 (TX11 12).2.2.1 ∈ wsX11_otherEnd := List.mem_of_getElem? (i := 1) rfl
set_option maxHeartbeats 4000000 in
set_option maxRecDepth 100000 in
theorem c_X11_otherEnd (l : Launch) (D : va_G) (cA : ClassId) (a_me a_page a_readRows a_readDraughts a_rows a_draughts a_gas a_heights a_steps a_menRows a_smoke a_lengths a_order a_bestOrder a_savedMen a_savedGas a_keptGas a_keptMenRows : Nat) (u_pageMany : Int32) (u_readMany : Int32) (u_readShafts : Int32) (u_readKnot : Int32) (u_state : Int32) (u_galleries : Int32) (u_minesRead : Int32) (u_moon : Int32) (u_time : Int32) (u_shut : Int32) (u_men : Int32) (u_done : Int32) (u_seedNow : Int32) (u_keptMine : Int32) (u_keptMen : Int32) (u_keptShut : Int32) (u_keptMoon : Int32) (u_keptTime : Int32) (u_hash : Int64) (c_rows : A32) (v1 : Int32) (v2 : Int32) (z : Int32) (h : f_X11_otherEnd c_rows v1 v2 = some z) : CtI l yX11_otherEnd wsX11_otherEnd rm_X11_otherEnd D cA [.ref a_me, .int v1, .int v2] (w_X11_otherEnd cA a_me a_page a_readRows a_readDraughts a_rows a_draughts a_gas a_heights a_steps a_menRows a_smoke a_lengths a_order a_bestOrder a_savedMen a_savedGas a_keptGas a_keptMenRows u_pageMany u_readMany u_readShafts u_readKnot u_state u_galleries u_minesRead u_moon u_time u_shut u_men u_done u_seedNow u_keptMine u_keptMen u_keptShut u_keptMoon u_keptTime u_hash c_rows) z (w_X11_otherEnd cA a_me a_page a_readRows a_readDraughts a_rows a_draughts a_gas a_heights a_steps a_menRows a_smoke a_lengths a_order a_bestOrder a_savedMen a_savedGas a_keptGas a_keptMenRows u_pageMany u_readMany u_readShafts u_readKnot u_state u_galleries u_minesRead u_moon u_time u_shut u_men u_done u_seedNow u_keptMine u_keptMen u_keptShut u_keptMoon u_keptTime u_hash c_rows) := by
  refine ct_I (maxL := 3) (ty := .int) (cc := cX11_otherEnd) (by decide) rfl (Nat.le_of_ble_eq_true rfl) rfl (fun p e s m args below meth c A Q X hret => ?_)
  have h : (if inB (4 * v1) 40 then if (c_rows (4 * v1).toNatClampNeg) = v2 then if inB ((4 * v1) + 1) 40 then some (c_rows ((4 * v1) + 1).toNatClampNeg) else none else if inB ((4 * v1) + 1) 40 then if (c_rows ((4 * v1) + 1).toNatClampNeg) = v2 then if inB (4 * v1) 40 then some (c_rows (4 * v1).toNatClampNeg) else none else some (-1) else none else none : Option (Int32)) = some z := h
  refine g_aload_n X 0 rfl rfl dX11_otherEnd_0 rfl ?_
  refine g_getf (C := RX11) (T := TX11) (N := 36) (v := .ref a_rows) X 0 rfl vc_X11 12 (by decide) iw_X11_otherEnd_X11 fl_X11_otherEnd_X11_12 rfl rfl dX11_otherEnd_1 rfl ?_
  refine g_iconst (v := 4) X dX11_otherEnd_4 (by decide) rfl ?_
  refine g_iload_n X 1 rfl rfl dX11_otherEnd_5 rfl ?_
  refine g_imul X dX11_otherEnd_6 rfl ?_
  refine g_iald X 1 rfl dX11_otherEnd_7 rfl h (fun h => ?_)
  refine g_iload_n X 2 rfl rfl dX11_otherEnd_8 rfl ?_
  refine g_icmp_ne (tgt := 25) X dX11_otherEnd_9 (by decide) rfl h (fun c_1 h => ?_) (fun c_1 h => ?_)
  · refine g_aload_n X 0 rfl rfl dX11_otherEnd_25 rfl ?_
    refine g_getf (C := RX11) (T := TX11) (N := 36) (v := .ref a_rows) X 0 rfl vc_X11 12 (by decide) iw_X11_otherEnd_X11 fl_X11_otherEnd_X11_12 rfl rfl dX11_otherEnd_26 rfl ?_
    refine g_iconst (v := 4) X dX11_otherEnd_29 (by decide) rfl ?_
    refine g_iload_n X 1 rfl rfl dX11_otherEnd_30 rfl ?_
    refine g_imul X dX11_otherEnd_31 rfl ?_
    refine g_iconst (v := 1) X dX11_otherEnd_32 (by decide) rfl ?_
    refine g_iadd X dX11_otherEnd_33 rfl ?_
    refine g_iald X 1 rfl dX11_otherEnd_34 rfl h (fun h => ?_)
    refine g_iload_n X 2 rfl rfl dX11_otherEnd_35 rfl ?_
    refine g_icmp_ne (tgt := 50) X dX11_otherEnd_36 (by decide) rfl h (fun c_2 h => ?_) (fun c_2 h => ?_)
    · refine g_iconst (v := (-1)) X dX11_otherEnd_50 (by decide) rfl ?_
      cases Option.some.inj h
      exact hret _ _ dX11_otherEnd_51 rfl
    · refine g_aload_n X 0 rfl rfl dX11_otherEnd_39 rfl ?_
      refine g_getf (C := RX11) (T := TX11) (N := 36) (v := .ref a_rows) X 0 rfl vc_X11 12 (by decide) iw_X11_otherEnd_X11 fl_X11_otherEnd_X11_12 rfl rfl dX11_otherEnd_40 rfl ?_
      refine g_iconst (v := 4) X dX11_otherEnd_43 (by decide) rfl ?_
      refine g_iload_n X 1 rfl rfl dX11_otherEnd_44 rfl ?_
      refine g_imul X dX11_otherEnd_45 rfl ?_
      refine g_iald X 1 rfl dX11_otherEnd_46 rfl h (fun h => ?_)
      refine g_goto (tgt := 51) X dX11_otherEnd_47 (by decide) ?_
      cases Option.some.inj h
      exact hret _ _ dX11_otherEnd_51 rfl
  · refine g_aload_n X 0 rfl rfl dX11_otherEnd_12 rfl ?_
    refine g_getf (C := RX11) (T := TX11) (N := 36) (v := .ref a_rows) X 0 rfl vc_X11 12 (by decide) iw_X11_otherEnd_X11 fl_X11_otherEnd_X11_12 rfl rfl dX11_otherEnd_13 rfl ?_
    refine g_iconst (v := 4) X dX11_otherEnd_16 (by decide) rfl ?_
    refine g_iload_n X 1 rfl rfl dX11_otherEnd_17 rfl ?_
    refine g_imul X dX11_otherEnd_18 rfl ?_
    refine g_iconst (v := 1) X dX11_otherEnd_19 (by decide) rfl ?_
    refine g_iadd X dX11_otherEnd_20 rfl ?_
    refine g_iald X 1 rfl dX11_otherEnd_21 rfl h (fun h => ?_)
    refine g_goto (tgt := 51) X dX11_otherEnd_22 (by decide) ?_
    cases Option.some.inj h
    exact hret _ _ dX11_otherEnd_51 rfl
abbrev rm_X11_shaftHeight : Room := { frames := 0, cells := 0, slots := 0, locals := 0 }
abbrev w_X11_shaftHeight (cA : ClassId) (a_me a_page a_readRows a_readDraughts a_rows a_draughts a_gas a_heights a_steps a_menRows a_smoke a_lengths a_order a_bestOrder a_savedMen a_savedGas a_keptGas a_keptMenRows : Nat) (u_pageMany : Int32) (u_readMany : Int32) (u_readShafts : Int32) (u_readKnot : Int32) (u_state : Int32) (u_galleries : Int32) (u_minesRead : Int32) (u_time : Int32) (u_shut : Int32) (u_men : Int32) (u_done : Int32) (u_seedNow : Int32) (u_keptMine : Int32) (u_keptMen : Int32) (u_keptShut : Int32) (u_keptMoon : Int32) (u_keptTime : Int32) (u_hash : Int64) (c_moon : Int32) (c_draughts : A32) : va_W := [(a_me, .inr (11, [.ref a_page, .int u_pageMany, .ref a_readRows, .ref a_readDraughts, .int u_readMany, .int u_readShafts, .int u_readKnot, .int u_state, .int u_galleries, .int u_minesRead, .int c_moon, .int u_time, .ref a_rows, .ref a_draughts, .int u_shut, .ref a_gas, .ref a_heights, .ref a_steps, .int u_men, .ref a_menRows, .ref a_smoke, .int u_done, .ref a_lengths, .ref a_order, .ref a_bestOrder, .int u_seedNow, .ref a_savedMen, .ref a_savedGas, .int u_keptMine, .int u_keptMen, .int u_keptShut, .int u_keptMoon, .int u_keptTime, .ref a_keptGas, .ref a_keptMenRows, .long u_hash])), (a_draughts, .inl (cA, 7, .inl c_draughts))]
theorem hd_X11_shaftHeight : yX11_shaftHeight.cls ≠ "java/lang/invoke/MethodHandle" ∧ yX11_shaftHeight.cls ≠ "java/lang/invoke/VarHandle" ∧ (parseMethodDescriptor yX11_shaftHeight.desc).map (fun d => d.parameters.length) = some 1 := by decide +kernel
theorem iw_X11_shaftHeight_X11 : ∀ w ∈ wsX110, w ∈ wsX11_shaftHeight := fun w h => List.mem_cons_of_mem _ (List.mem_append_right _ h)
theorem fl_X11_shaftHeight_X11_10 : Cond.fieldLink RX11 111 RX11 (TX11 10).2.1 (TX11 10).2.2.1 ∈ wsX11_shaftHeight := List.mem_of_getElem? (i := 1) rfl
theorem fl_X11_shaftHeight_X11_13 : Cond.fieldLink RX11 22 RX11 (TX11 13).2.1 (TX11 13).2.2.1 ∈ wsX11_shaftHeight := List.mem_of_getElem? (i := 2) rfl
set_option maxHeartbeats 4000000 in
set_option maxRecDepth 100000 in
theorem t_X11_shaftHeight_b28 {l : Launch} {D : va_G} {cA : ClassId} {p : Program} {e : Env} {s : State} {m : MethodId} {args : Array Value} {below : List Frame} {meth : Method} {c : Code} {A : Nat → Prop} {Q : State → Prop} {z : Int32} {a_me a_page a_readRows a_readDraughts a_rows a_draughts a_gas a_heights a_steps a_menRows a_smoke a_lengths a_order a_bestOrder a_savedMen a_savedGas a_keptGas a_keptMenRows : Nat} {u_pageMany : Int32} {u_readMany : Int32} {u_readShafts : Int32} {u_readKnot : Int32} {u_state : Int32} {u_galleries : Int32} {u_minesRead : Int32} {u_time : Int32} {u_shut : Int32} {u_men : Int32} {u_done : Int32} {u_seedNow : Int32} {u_keptMine : Int32} {u_keptMen : Int32} {u_keptShut : Int32} {u_keptMoon : Int32} {u_keptTime : Int32} {u_hash : Int64} {c_moon : Int32} {c_draughts : A32} {t0 : Int32} {t1 : Int32}  (X : GX p s m args c cX11_shaftHeight RX11 wsX11_shaftHeight D cA A 2) (hret : RtI p l e rm_X11_shaftHeight s m args below meth c cX11_shaftHeight D A 2 0 0 Q .int z (w_X11_shaftHeight cA a_me a_page a_readRows a_readDraughts a_rows a_draughts a_gas a_heights a_steps a_menRows a_smoke a_lengths a_order a_bestOrder a_savedMen a_savedGas a_keptGas a_keptMenRows u_pageMany u_readMany u_readShafts u_readKnot u_state u_galleries u_minesRead u_time u_shut u_men u_done u_seedNow u_keptMine u_keptMen u_keptShut u_keptMoon u_keptTime u_hash c_moon c_draughts))  (h : f_X11_shaftHeight_b28 t0 t1 = some z) : G p l e rm_X11_shaftHeight s m args below meth c D A 2 0 0 Q 28 [] [.int t1, .int t0] (w_X11_shaftHeight cA a_me a_page a_readRows a_readDraughts a_rows a_draughts a_gas a_heights a_steps a_menRows a_smoke a_lengths a_order a_bestOrder a_savedMen a_savedGas a_keptGas a_keptMenRows u_pageMany u_readMany u_readShafts u_readKnot u_state u_galleries u_minesRead u_time u_shut u_men u_done u_seedNow u_keptMine u_keptMen u_keptShut u_keptMoon u_keptTime u_hash c_moon c_draughts) := by
  have h : (some (t0 * t1) : Option (Int32)) = some z := h
  refine g_imul X dX11_shaftHeight_28 rfl ?_
  cases Option.some.inj h
  exact hret _ _ dX11_shaftHeight_29 rfl
set_option maxHeartbeats 4000000 in
set_option maxRecDepth 100000 in
theorem c_X11_shaftHeight (l : Launch) (D : va_G) (cA : ClassId) (a_me a_page a_readRows a_readDraughts a_rows a_draughts a_gas a_heights a_steps a_menRows a_smoke a_lengths a_order a_bestOrder a_savedMen a_savedGas a_keptGas a_keptMenRows : Nat) (u_pageMany : Int32) (u_readMany : Int32) (u_readShafts : Int32) (u_readKnot : Int32) (u_state : Int32) (u_galleries : Int32) (u_minesRead : Int32) (u_time : Int32) (u_shut : Int32) (u_men : Int32) (u_done : Int32) (u_seedNow : Int32) (u_keptMine : Int32) (u_keptMen : Int32) (u_keptShut : Int32) (u_keptMoon : Int32) (u_keptTime : Int32) (u_hash : Int64) (c_moon : Int32) (c_draughts : A32) (v1 : Int32) (z : Int32) (h : f_X11_shaftHeight c_moon c_draughts v1 = some z) : CtI l yX11_shaftHeight wsX11_shaftHeight rm_X11_shaftHeight D cA [.ref a_me, .int v1] (w_X11_shaftHeight cA a_me a_page a_readRows a_readDraughts a_rows a_draughts a_gas a_heights a_steps a_menRows a_smoke a_lengths a_order a_bestOrder a_savedMen a_savedGas a_keptGas a_keptMenRows u_pageMany u_readMany u_readShafts u_readKnot u_state u_galleries u_minesRead u_time u_shut u_men u_done u_seedNow u_keptMine u_keptMen u_keptShut u_keptMoon u_keptTime u_hash c_moon c_draughts) z (w_X11_shaftHeight cA a_me a_page a_readRows a_readDraughts a_rows a_draughts a_gas a_heights a_steps a_menRows a_smoke a_lengths a_order a_bestOrder a_savedMen a_savedGas a_keptGas a_keptMenRows u_pageMany u_readMany u_readShafts u_readKnot u_state u_galleries u_minesRead u_time u_shut u_men u_done u_seedNow u_keptMine u_keptMen u_keptShut u_keptMoon u_keptTime u_hash c_moon c_draughts) := by
  refine ct_I (maxL := 2) (ty := .int) (cc := cX11_shaftHeight) (by decide) rfl (Nat.le_of_ble_eq_true rfl) rfl (fun p e s m args below meth c A Q X hret => ?_)
  have h : (if c_moon = 1 then if inB v1 7 then f_X11_shaftHeight_b28 12 (9 - (c_draughts v1.toNatClampNeg)) else none else if inB v1 7 then f_X11_shaftHeight_b28 12 (c_draughts v1.toNatClampNeg) else none : Option (Int32)) = some z := h
  refine g_bipush (v := 12) X dX11_shaftHeight_0 (by decide) rfl ?_
  refine g_aload_n X 0 rfl rfl dX11_shaftHeight_2 rfl ?_
  refine g_getf (C := RX11) (T := TX11) (N := 36) (v := .int c_moon) X 0 rfl vc_X11 10 (by decide) iw_X11_shaftHeight_X11 fl_X11_shaftHeight_X11_10 rfl rfl dX11_shaftHeight_3 rfl ?_
  refine g_iconst (v := 1) X dX11_shaftHeight_6 (by decide) rfl ?_
  refine g_icmp_ne (tgt := 22) X dX11_shaftHeight_7 (by decide) rfl h (fun c_1 h => ?_) (fun c_1 h => ?_)
  · refine g_aload_n X 0 rfl rfl dX11_shaftHeight_22 rfl ?_
    refine g_getf (C := RX11) (T := TX11) (N := 36) (v := .ref a_draughts) X 0 rfl vc_X11 13 (by decide) iw_X11_shaftHeight_X11 fl_X11_shaftHeight_X11_13 rfl rfl dX11_shaftHeight_23 rfl ?_
    refine g_iload_n X 1 rfl rfl dX11_shaftHeight_26 rfl ?_
    refine g_iald X 1 rfl dX11_shaftHeight_27 rfl h (fun h => ?_)
    refine g_lvs [] rfl ?_
    exact t_X11_shaftHeight_b28 X hret h
  · refine g_bipush (v := 9) X dX11_shaftHeight_10 (by decide) rfl ?_
    refine g_aload_n X 0 rfl rfl dX11_shaftHeight_12 rfl ?_
    refine g_getf (C := RX11) (T := TX11) (N := 36) (v := .ref a_draughts) X 0 rfl vc_X11 13 (by decide) iw_X11_shaftHeight_X11 fl_X11_shaftHeight_X11_13 rfl rfl dX11_shaftHeight_13 rfl ?_
    refine g_iload_n X 1 rfl rfl dX11_shaftHeight_16 rfl ?_
    refine g_iald X 1 rfl dX11_shaftHeight_17 rfl h (fun h => ?_)
    refine g_isub X dX11_shaftHeight_18 rfl ?_
    refine g_goto (tgt := 28) X dX11_shaftHeight_19 (by decide) ?_
    refine g_lvs [] rfl ?_
    exact t_X11_shaftHeight_b28 X hret h
