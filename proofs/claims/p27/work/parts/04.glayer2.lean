def PcX (D : va_G) (cA : ClassId) (W0 : va_W) (b L : Nat) (xs : Nat → Int32) (sz : Nat) : State → Prop := fun U => PcW D cA W0 sz U ∧ va_X b L xs U U.heap ∧ b < sz ∧ ¬ va_A W0 sz b
def CtX (l : Launch) (y : MethodName) (wd : List Cond) (rm : Room) (D : va_G) (cA : ClassId) (b L : Nat) (xs : Nat → Int32) (av : List Value) (W0 : va_W) (r : Int32) (W1 : va_W) : Prop := ∀ sz, Met l y wd rm (va_Pc av (PcX D cA W0 b L xs sz)) (va_Qi (fun (r' : Int32) (_ : Unit) => r' = r) (BW D W0 sz (fun _ => W1)) (va_A W0 sz)) 0 0 (va_A W0 sz)
def CtM (l : Launch) (y : MethodName) (wd : List Cond) (rm : Room) (D : va_G) (cA : ClassId) (av : List Value) (W0 : va_W) (r : Int32) (W1 : va_W) (mc ms : Nat) : Prop := ∀ sz, Met l y wd rm (va_Pc av (PcW D cA W0 sz)) (va_Qi (fun (r' : Int32) (_ : Unit) => r' = r) (BW D W0 sz (fun _ => W1)) (va_A W0 sz)) mc ms (va_A W0 sz)
def CtA (l : Launch) (y : MethodName) (wd : List Cond) (rm : Room) (D : va_G) (cA : ClassId) (av : List Value) (W0 : va_W) (W1 : Nat → va_W) (mc ms : Nat) : Prop := ∀ sz, Met l y wd rm (va_Pc av (PcW D cA W0 sz)) (va_Qr (fun _ : Unit => True) (fun _ a => BW D W0 sz W1 a) (va_A W0 sz)) mc ms (va_A W0 sz)
theorem pcx_blind {D : va_G} {cA : ClassId} {W0 : va_W} {b L : Nat} {xs : Nat → Int32} {sz : Nat} {av : List Value} : FrameBlind (va_Pc av (PcX D cA W0 b L xs sz)) := fun a U g mk q => by
  obtain ⟨q0, ⟨q1, qP, ⟨qK, qN⟩, qD⟩, qX, qb, qA⟩ := q
  exact ⟨q0, ⟨q1, qP, ⟨va_K.moved (u := U) (U := U.calling g mk a) (Vm.Alike.refl U.vm) qK, fun x hx => va_Nw.same rfl (by rfl) (qN x hx)⟩, qD⟩, va_X.moved (u := U) (U := U.calling g mk a) (Vm.Alike.refl U.vm) qX, qb, qA⟩
section GLc
variable {p : Program} {l : Launch} {e : Env} {R : Room} {s : State} {m : MethodId} {args : Array Value} {below : List Frame} {meth : Method} {c : Code} {cells slots : Nat} {Q : State → Prop}
variable {cc : ByteArray} {own : String} {Ts : List Cond} {D : va_G} {cA : ClassId} {A : Nat → Prop} {nL : Nat} {pc npc : Nat} {lv lv' : List (Nat × Value)} {st stk : List Value} {ws ws' : va_W}
def RtA (p : Program) (l : Launch) (e : Env) (R : Room) (s : State) (m : MethodId) (args : Array Value) (below : List Frame) (meth : Method) (c : Code) (cc : ByteArray) (D : va_G) (A : Nat → Prop) (nL : Nat) (cells slots : Nat) (Q : State → Prop) (w : Nat → va_W) : Prop := ∀ (a pc : Nat) (lv : List (Nat × Value)), decode cc pc = .ok (.areturn, 1) → G p l e R s m args below meth c D A nL cells slots Q pc lv [.ref a] (w a)
theorem ct_X {y : MethodName} {wd wd' : List Cond} {rm : Room} {maxL b L : Nat} {xs : Nat → Int32} {ty : FieldType} {av : List Value} {W0 W1 : va_W} {r : Int32} (hy : plainName y.cls = true) (hw : wd = Cond.code y cc maxL (some ty) :: wd') (hlen : (lg_sl av).length ≤ maxL) (hlv : lv_args 0 av = lv)
    (body : ∀ (p : Program) (e : Env) (s : State) (m : MethodId) (args : Array Value) (below : List Frame) (meth : Method) (c : Code) (A : Nat → Prop) (Q : State → Prop), GX p s m args c cc y.cls wd D cA A maxL → (va_X b L xs s s.heap ∧ b < s.heap.size ∧ ¬ A b) → RtI p l e rm s m args below meth c cc D A maxL 0 0 Q ty r W1 → G p l e rm s m args below meth c D A maxL 0 0 Q 0 lv [] W0) : CtX l y wd rm D cA b L xs av W0 r W1 := by
  intro sz
  refine Met.ofW (cc := cc) (maxL := maxL) (ret := some ty) hy hw ?_
  intro p e s m args below meth c s₁ B hml hv
  obtain ⟨rfl, ⟨rfl, hP, hE, hD0⟩, hX, hb, hA⟩ := hv
  have hlocks := B.notSynchronized
  have hr := B.returns
  have X : GX p s m av.toArray c cc y.cls wd D cA (va_A W0 s.heap.size) maxL := ⟨B.exec, B.bytes, hml, findClass_of_methodNamed B.named, atoms_spec (ws := wd) B.pre, hE, fun q h => Or.inr h⟩
  refine entry_G X hlen hlv hP hD0.self (body p e s m _ below meth c _ _ X ⟨hX, hb, hA⟩ ?_)
  intro pc lv hd hnr H locs ls hP hD hS hl
  exact W.zret (v := r) X.1 X.2.1 hr hnr (fun t ht hW => ⟨⟨r, (), rfl, rfl, by rw [ht]; exact hP, hD⟩, hS.F ht⟩) hS.2.2 hd
theorem ct_M {y : MethodName} {wd wd' : List Cond} {rm : Room} {maxL mc ms : Nat} {ty : FieldType} {av : List Value} {W0 W1 : va_W} {r : Int32} (hy : plainName y.cls = true) (hw : wd = Cond.code y cc maxL (some ty) :: wd') (hlen : (lg_sl av).length ≤ maxL) (hlv : lv_args 0 av = lv)
    (body : ∀ (p : Program) (e : Env) (s : State) (m : MethodId) (args : Array Value) (below : List Frame) (meth : Method) (c : Code) (A : Nat → Prop) (Q : State → Prop), GX p s m args c cc y.cls wd D cA A maxL → RtI p l e rm s m args below meth c cc D A maxL mc ms Q ty r W1 → G p l e rm s m args below meth c D A maxL 0 0 Q 0 lv [] W0) : CtM l y wd rm D cA av W0 r W1 mc ms := by
  intro sz
  refine Met.ofW (cc := cc) (maxL := maxL) (ret := some ty) hy hw ?_
  intro p e s m args below meth c s₁ B hml hv
  obtain ⟨rfl, rfl, hP, hE, hD0⟩ := hv
  have hlocks := B.notSynchronized
  have hr := B.returns
  have X : GX p s m av.toArray c cc y.cls wd D cA (va_A W0 s.heap.size) maxL := ⟨B.exec, B.bytes, hml, findClass_of_methodNamed B.named, atoms_spec (ws := wd) B.pre, hE, fun q h => Or.inr h⟩
  refine entry_G X hlen hlv hP hD0.self (body p e s m _ below meth c _ _ X ?_)
  intro pc lv hd hnr H locs ls hP hD hS hl
  exact W.zret (v := r) X.1 X.2.1 hr hnr (fun t ht hW => ⟨⟨r, (), rfl, rfl, by rw [ht]; exact hP, hD⟩, hS.F ht⟩) hS.2.2 hd
theorem ct_A {y : MethodName} {wd wd' : List Cond} {rm : Room} {maxL mc ms : Nat} {av : List Value} {W0 : va_W} {W1 : Nat → va_W} (hy : plainName y.cls = true) (hw : wd = Cond.code y cc maxL (some (.array .int)) :: wd') (hlen : (lg_sl av).length ≤ maxL) (hlv : lv_args 0 av = lv)
    (body : ∀ (p : Program) (e : Env) (s : State) (m : MethodId) (args : Array Value) (below : List Frame) (meth : Method) (c : Code) (A : Nat → Prop) (Q : State → Prop), GX p s m args c cc y.cls wd D cA A maxL → RtA p l e rm s m args below meth c cc D A maxL mc ms Q W1 → G p l e rm s m args below meth c D A maxL 0 0 Q 0 lv [] W0) : CtA l y wd rm D cA av W0 W1 mc ms := by
  intro sz
  refine Met.ofW (cc := cc) (maxL := maxL) (ret := some (.array .int)) hy hw ?_
  intro p e s m args below meth c s₁ B hml hv
  obtain ⟨rfl, rfl, hP, hE, hD0⟩ := hv
  have hlocks := B.notSynchronized
  have hr := B.returns
  have X : GX p s m av.toArray c cc y.cls wd D cA (va_A W0 s.heap.size) maxL := ⟨B.exec, B.bytes, hml, findClass_of_methodNamed B.named, atoms_spec (ws := wd) B.pre, hE, fun q h => Or.inr h⟩
  refine entry_G X hlen hlv hP hD0.self (body p e s m _ below meth c _ _ X ?_)
  intro a pc lv hd H locs ls hP hD hS hl
  exact W.aret (v := .ref a) X.1 X.2.1 hr (Or.inr ⟨_, rfl⟩) (Or.inr ⟨a, rfl⟩) (fun t ht hW => ⟨⟨(), a, rfl, trivial, by rw [ht]; exact hP, hD⟩, hS.F ht⟩) hS.2.2 hd
theorem g_callSIX (X : GX p s m args c cc own Ts D cA A nL) {y : MethodName} {bytes : ByteArray} {maxL n index : Nat} {wd wd' : List Cond} {rm : Room} {As : List Value} {W0 : va_W} {isC isR perm : List Nat} {b L : Nat} {xs : Nat → Int32} {r : Int32} {W1 : va_W} {ty : FieldType} (hM : CtX l y wd rm D cA b L xs As W0 r W1) (hX : va_X b L xs s s.heap ∧ b < s.heap.size ∧ ¬ A b) (hG : GoodIn Ts (va_wsS own index y wd)) (hw : wd = Cond.code y bytes maxL (some ty) :: wd') (hrmc : rm.cells = 0) (hrms : rm.slots = 0) (hdd : y.cls ≠ "java/lang/invoke/MethodHandle" ∧ y.cls ≠ "java/lang/invoke/VarHandle" ∧ (parseMethodDescriptor y.desc).map (fun d => d.parameters.length) = some n) (hrm : rm.frames + 1 ≤ R.frames ∧ 8 + (maxL + 11) + rm.locals ≤ R.locals) (hst0 : stk = As.reverse ++ st) (hn1 : As.length = n) (hcat : (st.map fun v => v.category).sum ≤ 8) (hC : isC.map (fun i => ws[i]?) = W0.map some) (hndC : va_nd isC = true) (hR1 : isR.map (fun i => ws[i]?) = (isR.filterMap (fun i => ws[i]?)).map some) (hnd : va_nd isR = true) (hdis : ∀ i ∈ isR, i ∉ isC) (hcs : cells + 0 ≤ R.cells ∧ slots + 0 ≤ R.slots) (hq : perm.map (fun i => (isR.filterMap (fun i => ws[i]?) ++ W1)[i]?) = ws'.map some) (hqn : va_nd perm = true) (hd : decode cc pc = .ok (.invokestatic index, 3)) (hn : pc + 3 = npc) (kk : G p l e R s m args below meth c D A nL cells slots Q npc lv (.int r :: st) ws') : G p l e R s m args below meth c D A nL cells slots Q pc lv stk ws := by
  subst hn hst0
  intro H locs ls hP hD hS hl
  have hPc := hP.sub (ws' := W0) isC (fm_of_map isC W0 hC)
  have hDc : va_D A W0 := hD.sub isC hndC hC
  have hFc := va_free (wc := W0) hD hS X.2.2.2.2.2.2 isC hC
  refine va_calli (va_runS (As := As) (rest := st) ⟨X.1, X.2.1, X.2.2.1, X.2.2.2.1, X.2.2.2.2.1⟩ (hM H.size) (va_cwS n X.2.2.2.2.1 hG hw hrmc hrms hdd hrm) ⟨pcx_blind, fun U hU hW => ⟨rfl, ⟨by rw [hU], by rw [hU]; exact hPc, ev_warm hW X.2.2.2.2.2.1, hDc.weaken (fun _ _ _ _ => trivial)⟩, by rw [hU]; exact va_X.moved hW.alike (hX.1.kept (hS.2.1 b hX.2.1 hX.2.2)), Nat.lt_of_lt_of_le hX.2.1 hS.1, fun h => hX.2.2 (hFc b h)⟩⟩ rfl hn1 hl.1 rfl (lv_room hcat) hd ⟨hcs.1, hcs.2⟩) hS (fun q _ h => hFc q h) hFc (fun r1 u t H1 locs ht hvm hw1 hB hz1 hk1 hS => ?_)
  obtain ⟨hP1, hD1⟩ := hB
  rw [ht] at hP1
  subst hw1
  obtain ⟨hP2, hD2⟩ := va_join (wr := isR.filterMap (fun i => ws[i]?)) (w1 := W1) hP hD isC isR hC hR1 hnd hdis hk1 hFc hP1 hD1
  have hP3 : va_P D vwCl ws' H1 := hP2.sub perm (fm_of_map perm ws' hq)
  exact kk H1 locs ls hP3 (hD2.sub perm hqn hq) hS hl
theorem g_callSIM (X : GX p s m args c cc own Ts D cA A nL) {y : MethodName} {bytes : ByteArray} {maxL n index : Nat} {wd wd' : List Cond} {rm : Room} {As : List Value} {W0 : va_W} {isC isR perm : List Nat} {mc ms : Nat} {r : Int32} {W1 : va_W} {ty : FieldType} (hM : CtM l y wd rm D cA As W0 r W1 mc ms) (hG : GoodIn Ts (va_wsS own index y wd)) (hw : wd = Cond.code y bytes maxL (some ty) :: wd') (hrmc : rm.cells = mc) (hrms : rm.slots = ms) (hdd : y.cls ≠ "java/lang/invoke/MethodHandle" ∧ y.cls ≠ "java/lang/invoke/VarHandle" ∧ (parseMethodDescriptor y.desc).map (fun d => d.parameters.length) = some n) (hrm : rm.frames + 1 ≤ R.frames ∧ 8 + (maxL + 11) + rm.locals ≤ R.locals) (hst0 : stk = As.reverse ++ st) (hn1 : As.length = n) (hcat : (st.map fun v => v.category).sum ≤ 8) (hC : isC.map (fun i => ws[i]?) = W0.map some) (hndC : va_nd isC = true) (hR1 : isR.map (fun i => ws[i]?) = (isR.filterMap (fun i => ws[i]?)).map some) (hnd : va_nd isR = true) (hdis : ∀ i ∈ isR, i ∉ isC) (hcs : cells + mc ≤ R.cells ∧ slots + ms ≤ R.slots) (hq : perm.map (fun i => (isR.filterMap (fun i => ws[i]?) ++ W1)[i]?) = ws'.map some) (hqn : va_nd perm = true) (hd : decode cc pc = .ok (.invokestatic index, 3)) (hn : pc + 3 = npc) (kk : G p l e R s m args below meth c D A nL (cells + mc) (slots + ms) Q npc lv (.int r :: st) ws') : G p l e R s m args below meth c D A nL cells slots Q pc lv stk ws := by
  subst hn hst0
  intro H locs ls hP hD hS hl
  have hPc := hP.sub (ws' := W0) isC (fm_of_map isC W0 hC)
  have hDc : va_D A W0 := hD.sub isC hndC hC
  have hFc := va_free (wc := W0) hD hS X.2.2.2.2.2.2 isC hC
  refine va_calli (va_runS (As := As) (rest := st) ⟨X.1, X.2.1, X.2.2.1, X.2.2.2.1, X.2.2.2.2.1⟩ (hM H.size) (va_cwS n X.2.2.2.2.1 hG hw hrmc hrms hdd hrm) ⟨pcw_blind, fun U hU hW => ⟨rfl, ⟨by rw [hU], by rw [hU]; exact hPc, ev_warm hW X.2.2.2.2.2.1, hDc.weaken (fun _ _ _ _ => trivial)⟩⟩⟩ rfl hn1 hl.1 rfl (lv_room hcat) hd ⟨hcs.1, hcs.2⟩) hS (fun q _ h => hFc q h) hFc (fun r1 u t H1 locs ht hvm hw1 hB hz1 hk1 hS => ?_)
  obtain ⟨hP1, hD1⟩ := hB
  rw [ht] at hP1
  subst hw1
  obtain ⟨hP2, hD2⟩ := va_join (wr := isR.filterMap (fun i => ws[i]?)) (w1 := W1) hP hD isC isR hC hR1 hnd hdis hk1 hFc hP1 hD1
  have hP3 : va_P D vwCl ws' H1 := hP2.sub perm (fm_of_map perm ws' hq)
  exact kk H1 locs ls hP3 (hD2.sub perm hqn hq) hS hl
theorem g_callSA (X : GX p s m args c cc own Ts D cA A nL) {y : MethodName} {bytes : ByteArray} {maxL n index : Nat} {wd wd' : List Cond} {rm : Room} {As : List Value} {W0 : va_W} {isC isR perm : List Nat} {mc ms : Nat} {W1 wf : Nat → va_W} (hM : CtA l y wd rm D cA As W0 W1 mc ms) (hG : GoodIn Ts (va_wsS own index y wd)) (hw : wd = Cond.code y bytes maxL (some (.array .int)) :: wd') (hrmc : rm.cells = mc) (hrms : rm.slots = ms) (hdd : y.cls ≠ "java/lang/invoke/MethodHandle" ∧ y.cls ≠ "java/lang/invoke/VarHandle" ∧ (parseMethodDescriptor y.desc).map (fun d => d.parameters.length) = some n) (hrm : rm.frames + 1 ≤ R.frames ∧ 8 + (maxL + 11) + rm.locals ≤ R.locals) (hst0 : stk = As.reverse ++ st) (hn1 : As.length = n) (hcat : (st.map fun v => v.category).sum ≤ 8) (hC : isC.map (fun i => ws[i]?) = W0.map some) (hndC : va_nd isC = true) (hR1 : isR.map (fun i => ws[i]?) = (isR.filterMap (fun i => ws[i]?)).map some) (hnd : va_nd isR = true) (hdis : ∀ i ∈ isR, i ∉ isC) (hcs : cells + mc ≤ R.cells ∧ slots + ms ≤ R.slots) (hq : ∀ u, perm.map (fun i => (isR.filterMap (fun i => ws[i]?) ++ W1 u)[i]?) = (wf u).map some) (hqn : va_nd perm = true) (hd : decode cc pc = .ok (.invokestatic index, 3)) (hn : pc + 3 = npc) (kk : ∀ u : Nat, G p l e R s m args below meth c D A nL (cells + mc) (slots + ms) Q npc lv (.ref u :: st) (wf u)) : G p l e R s m args below meth c D A nL cells slots Q pc lv stk ws := by
  subst hn hst0
  intro H locs ls hP hD hS hl
  have hPc := hP.sub (ws' := W0) isC (fm_of_map isC W0 hC)
  have hDc : va_D A W0 := hD.sub isC hndC hC
  have hFc := va_free (wc := W0) hD hS X.2.2.2.2.2.2 isC hC
  refine va_callr (va_runS (As := As) (rest := st) ⟨X.1, X.2.1, X.2.2.1, X.2.2.2.1, X.2.2.2.2.1⟩ (hM H.size) (va_cwS n X.2.2.2.2.1 hG hw hrmc hrms hdd hrm) ⟨pcw_blind, fun U hU hW => ⟨rfl, ⟨by rw [hU], by rw [hU]; exact hPc, ev_warm hW X.2.2.2.2.2.1, hDc.weaken (fun _ _ _ _ => trivial)⟩⟩⟩ rfl hn1 hl.1 rfl (lv_room hcat) hd ⟨hcs.1, hcs.2⟩) hS (fun q _ h => hFc q h) hFc (fun u ra t H1 locs ht hvm hw1 hB hz1 hk1 hS => ?_)
  obtain ⟨hP1, hD1⟩ := hB
  rw [ht] at hP1
  obtain ⟨hP2, hD2⟩ := va_join (wr := isR.filterMap (fun i => ws[i]?)) (w1 := W1 ra) hP hD isC isR hC hR1 hnd hdis hk1 hFc hP1 hD1
  exact kk ra H1 locs ls (hP2.sub perm (fm_of_map perm (wf ra) (hq ra))) (hD2.sub perm hqn (hq ra)) hS hl
end GLc
