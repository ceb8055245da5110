/-! the law's walks say true -/
theorem PA.of {p c : A32} {gas kind place : Nat → Nat} {outx : Int32} {M T : Nat} (h : PA p gas kind place outx M T) (hM : M ≤ 6) (hc : ∀ k, k < 22 → c k = p k) : PA c gas kind place outx M T := by
  obtain ⟨p1, p2, p3, p4, p5⟩ := h
  refine ⟨fun k hk => ?_, fun m hm => ⟨?_, ?_⟩, ?_, ?_, ?_⟩
  · rw [hc _ (by omega)]; exact p1 k hk
  · rw [hc _ (by omega)]; exact (p2 m hm).1
  · rw [hc _ (by omega)]; exact (p2 m hm).2
  · rw [hc _ (by omega)]; exact p3
  · rw [hc _ (by omega)]; exact p4
  · rw [hc _ (by omega)]; exact p5
set_option maxHeartbeats 4000000 in
theorem L_walks_e {d p : A32} {cg cdoors cshafts : Int32} {cone ctwo clen cdr : A32} {M G T : Nat} {one two len dr : Nat → Nat} {dor opn : Nat → Bool} {moon : Bool} {kind : Nat → Nat} {gas place : Nat → Nat} {outx : Int32} {cbr : Int32} {csize cout cgone copen : Int32} {ckinds cplace cgas : A32}
    (hM : MA cg cdoors cshafts cone ctwo clen cdr G one two len dor dr) (hD : DA d G one two len dor opn moon dr) (hw : WF G one two len dr) (ho : ∀ g, g < G → bt copen g = opn g) (hb : ∀ k, k < 7 → bt cbr k = dcd (brt G one two (flw G one two opn moon dr) k))
    (hC : CM csize ckinds cplace cgas cout cgone gas kind place outx M T) (hP : PA p gas kind place outx M T) (hW : WM gas kind place outx M T) {times seed : Nat} (t1 : 1 ≤ times) (t2 : times ≤ 60) (hTt : T + times < 100000) (hs : seed < 2147483648) (x1 x2 x3 x4 : Int32) (x5 x6 : A32) (x7 : Int32) :
    ∃ y : Int32 × Int32 × Int32 × Int32 × A32 × A32 × Int32, f_L_walks 59 22 cg cone ctwo cbr csize ckinds copen (b2i moon) cout cgone cgas cplace x1 x2 x3 x4 x5 x6 x7 d p (nI times) (nI seed) = some (1, y) := by
  have hG := hw.1
  have hfl : ∀ g x, g < G → flw G one two opn moon dr g = some x → x < 7 := fun g x hg h => flw_lt hw hg h
  have hM6 := hW.1
  obtain ⟨a, ea, ha⟩ := L_air_e hD hw
  obtain ⟨b, hbb⟩ : ∃ b : Nat → Bool, b = fun k => dcd (brt G one two (flw G one two opn moon dr) k) := ⟨_, rfl⟩
  have hb' : ∀ k, k < 7 → bt cbr k = b k := fun k hk => by rw [hbb]; exact hb k hk
  have ok0 : WSok M (place, seed, gas, bt outx) := ⟨fun m hm => (hW.2.2.1 m hm).2, hs, hW.2.1, fun i hi => by
    rcases Nat.lt_or_ge i 32 with r | r
    · exact hW.2.2.2.1 i hi r
    · exact b_big r⟩
  unfold f_L_walks
  -- a copy
  obtain ⟨c0, hc0, e0⟩ := lp (fun fu (s : A32) i => f_L_walks_b9 59 22 cg cone ctwo cbr csize ckinds copen (b2i moon) cout cgone cgas cplace x1 x2 x3 x4 x5 x6 x7 d p (nI times) (nI seed) fu s (nI i)) 22 (fun i s => ∀ k, k < i → s k = p k)
    (fun s => f_L_walks_b45 59 22 cg cone ctwo cbr csize ckinds copen (b2i moon) cout cgone cgas cplace x1 x2 x3 x4 x5 x6 x7 d a (nI times) (nI seed) FU s (lN seed) 0) (by
      intro fu i s hi h1
      refine ⟨upd s i (p i), fun k hk => ?_, ?_⟩
      · rw [upd_e]
        by_cases r : k = i
        · subst r; rw [if_pos rfl]
        · rw [if_neg r]; exact h1 k (by omega)
      · simp (maxSteps := 4000000) (disch := omega) only [f_L_walks_b9, le22F, if_false, inT, if_true, nam_e, cl_e, nI_1]) (by
      intro fu s _
      simp (maxSteps := 4000000) (disch := omega) only [f_L_walks_b9, le22T, if_true, ea, bnd_e, nam_e, nI_l]) (i := 0) (k := 22) (fu := FU) (s := fun _ => 0) rfl (FU_lt (by decide)) (fun k h => absurd h (Nat.not_lt_zero k))
  rw [show f_L_walks_b9 59 22 cg cone ctwo cbr csize ckinds copen (b2i moon) cout cgone cgas cplace x1 x2 x3 x4 x5 x6 x7 d p (nI times) (nI seed) FU (fun _ => 0) 0 = f_L_walks_b45 59 22 cg cone ctwo cbr csize ckinds copen (b2i moon) cout cgone cgas cplace x1 x2 x3 x4 x5 x6 x7 d a (nI times) (nI seed) FU c0 (lN seed) 0 from e0]
  -- the minutes
  obtain ⟨⟨c, q⟩, ⟨o, hq, hPc, ho'⟩, e1⟩ := lp (fun fu (s : A32 × Nat) i => f_L_walks_b45 59 22 cg cone ctwo cbr csize ckinds copen (b2i moon) cout cgone cgas cplace x1 x2 x3 x4 x5 x6 x7 d a (nI times) (nI seed) fu s.1 (lN s.2) (nI i)) times
    (fun i s => ∃ o, s.2 = (wS M G one two opn kind b (place, seed, gas, bt outx) i).2.1 ∧ PA s.1 (wS M G one two opn kind b (place, seed, gas, bt outx) i).2.2.1 kind (wS M G one two opn kind b (place, seed, gas, bt outx) i).1 o M T ∧ ∀ j, j < 32 → bt o j = (wS M G one two opn kind b (place, seed, gas, bt outx) i).2.2.2 j)
    (fun s => f_L_walks_b323 59 22 cg cone ctwo cbr csize ckinds copen (b2i moon) cout cgone cgas cplace x1 x2 x3 x4 x5 x6 x7 s.1 a (nI times) (nI seed) (lN s.2) FU 0 0 0) (by
      rintro fu i ⟨c, q⟩ hi ⟨o, hq, hPc, ho'⟩
      dsimp only at hq hPc
      subst hq
      obtain ⟨k1, k2, k3, k4⟩ := wS_ok (opn := opn) (kind := kind) (b := b) hw ok0 i
      have hWi : WM (wS M G one two opn kind b (place, seed, gas, bt outx) i).2.2.1 kind (wS M G one two opn kind b (place, seed, gas, bt outx) i).1 o M T := ⟨hM6, k3, fun m hm => ⟨(hW.2.2.1 m hm).1, k1 m hm⟩, fun j hj hj2 => by rw [ho' j hj2, k4 j hj], by omega⟩
      obtain ⟨c', hP', ed⟩ := dreamL_e (a := a) hD hw hPc hWi k2 cg cone ctwo cbr csize ckinds copen (b2i moon) cout cgone cgas cplace x1 x2 x3 x4 x5 x6 x7 (nI seed) hi t2 fu
      have hout : dW M G one two opn (bt o) (wS M G one two opn kind b (place, seed, gas, bt outx) i).1 (wS M G one two opn kind b (place, seed, gas, bt outx) i).2.1 = dW M G one two opn (wS M G one two opn kind b (place, seed, gas, bt outx) i).2.2.2 (wS M G one two opn kind b (place, seed, gas, bt outx) i).1 (wS M G one two opn kind b (place, seed, gas, bt outx) i).2.1 := by
        unfold dW
        by_cases h0 : M = 0
        · rw [if_pos h0, if_pos h0]
        · have hm : nxt (wS M G one two opn kind b (place, seed, gas, bt outx) i).2.1 / 65536 % M < M := Nat.mod_lt _ (by omega)
          rw [ho' _ (by omega)]
      rw [hout] at hP' ed
      have hd := dW_ok (opn := opn) (out := (wS M G one two opn kind b (place, seed, gas, bt outx) i).2.2.2) hw k1 k2
      obtain ⟨n, c'', o'', em, hP'', hO, -⟩ := L_minute_e hD hw hfl ha hP' ⟨hM6, k3, fun m hm => ⟨(hW.2.2.1 m hm).1, hd.1 m hm⟩, hWi.2.2.2.1, by omega⟩
      refine ⟨(c'', (dW M G one two opn (wS M G one two opn kind b (place, seed, gas, bt outx) i).2.2.2 (wS M G one two opn kind b (place, seed, gas, bt outx) i).1 (wS M G one two opn kind b (place, seed, gas, bt outx) i).2.1).2), ⟨o'', rfl, ?_, fun j hj => ?_⟩, ?_⟩
      · rw [← hbb] at hP''
        exact hP''
      · rw [hO j hj, ho' j hj, ← hbb]
        rfl
      · dsimp only
        rw [ed]
        unfold f_L_walks_b299
        rw [em, bnd_e, nam_e, nI_1]) (by
      rintro fu ⟨c, q⟩ -
      simp (maxSteps := 4000000) (disch := omega) only [f_L_walks_b45, leT, if_true]) (i := 0) (k := times) (fu := FU) (s := (c0, seed)) (by omega) (FU_lt (by omega)) ⟨outx, rfl, hP.of hM6 hc0, fun j _ => rfl⟩
  dsimp only at hq hPc
  subst hq
  rw [show f_L_walks_b45 59 22 cg cone ctwo cbr csize ckinds copen (b2i moon) cout cgone cgas cplace x1 x2 x3 x4 x5 x6 x7 d a (nI times) (nI seed) FU c0 (lN seed) 0 = f_L_walks_b323 59 22 cg cone ctwo cbr csize ckinds copen (b2i moon) cout cgone cgas cplace x1 x2 x3 x4 x5 x6 x7 c a (nI times) (nI seed) (lN (wS M G one two opn kind b (place, seed, gas, bt outx) times).2.1) FU 0 0 0 from e1]
  obtain ⟨k1, k2, k3, k4⟩ := wS_ok (opn := opn) (kind := kind) (b := b) hw ok0 times
  obtain ⟨p1, p2, p3, p4, p5⟩ := hPc
  have hwk : ∀ what, what < 4 → ∀ (x1 x2 x3 x4 : Int32) (x5 x6 : A32) (x7 : Int32), ∃ y : Int32 × Int32 × Int32 × Int32 × A32 × A32 × Int32, f_X10_walks cg cone ctwo cbr csize ckinds copen (b2i moon) cout cgone cgas cplace x1 x2 x3 x4 x5 x6 x7 (nI times) (nI seed) (nI what) = some (wAns M (wS M G one two opn kind b (place, seed, gas, bt outx) times) what, y) := fun what hwh x1 x2 x3 x4 x5 x6 x7 => walks_e hM hw ho hC hW hb' t1 t2 hTt hs hwh x1 x2 x3 x4 x5 x6 x7
  generalize wS M G one two opn kind b (place, seed, gas, bt outx) times = st at *
  -- sums
  obtain ⟨⟨s1, s2⟩, ⟨h1, h2⟩, e2⟩ := lp (fun fu (s : Int32 × Int32) i => f_L_walks_b323 59 22 cg cone ctwo cbr csize ckinds copen (b2i moon) cout cgone cgas cplace x1 x2 x3 x4 x5 x6 x7 c a (nI times) (nI seed) (lN st.2.1) fu s.1 s.2 (nI i)) 7
    (fun i s => s.1 = nI (fb_ct st.2.2.2 i) ∧ s.2 = nI (fb_sm st.2.2.1 i))
    (fun s => f_L_walks_b323 59 22 cg cone ctwo cbr csize ckinds copen (b2i moon) cout cgone cgas cplace x1 x2 x3 x4 x5 x6 x7 c a (nI times) (nI seed) (lN st.2.1) 1 s.1 s.2 7) (by
      rintro fu i ⟨s1, s2⟩ hi ⟨h1, h2⟩
      dsimp only at h1 h2
      subst h1 h2
      refine ⟨(nI (fb_ct st.2.2.2 (i + 1)), nI (fb_sm st.2.2.1 (i + 1))), ⟨rfl, rfl⟩, ?_⟩
      rw [fb_ct_succ, fb_sm_succ]
      simp (maxSteps := 4000000) (disch := omega) only [f_L_walks_b323, le7F, if_false, in19, if_true, cl19, p3, bit_e, ho', b2i_nI, nI_add, nam_e, inT, cl_e, p1 i hi, nI_1]) (by
      rintro fu ⟨s1, s2⟩ -
      have h77 : ((7 : Int32) ≤ nI 7) = True := eq_true (by decide)
      have h7 : ((7 : Int32) ≤ 7) = True := eq_true (by decide)
      dsimp only
      rw [f_L_walks_b323, f_L_walks_b323, if_pos (show (7 : Int32) ≤ nI 7 by decide), if_pos (show (7 : Int32) ≤ 7 by decide)]) (i := 0) (k := 7) (fu := FU) (s := (0, 0)) rfl (FU_lt (by decide)) ⟨rfl, rfl⟩
  dsimp only at h1 h2
  subst h1 h2
  rw [show f_L_walks_b323 59 22 cg cone ctwo cbr csize ckinds copen (b2i moon) cout cgone cgas cplace x1 x2 x3 x4 x5 x6 x7 c a (nI times) (nI seed) (lN st.2.1) FU 0 0 0 = f_L_walks_b323 59 22 cg cone ctwo cbr csize ckinds copen (b2i moon) cout cgone cgas cplace x1 x2 x3 x4 x5 x6 x7 c a (nI times) (nI seed) (lN st.2.1) 1 (nI (fb_ct st.2.2.2 7)) (nI (fb_sm st.2.2.1 7)) 7 from e2]
  have hct : fb_ct st.2.2.2 7 = fb_ct st.2.2.2 6 := ct_cut (by decide) (fun i h1 _ => k4 i (by omega))
  rw [f_L_walks_b323, if_pos (show (7 : Int32) ≤ 7 by decide)]
  have wk0 : ∀ (x1 x2 x3 x4 : Int32) (x5 x6 : A32) (x7 : Int32), ∃ y : Int32 × Int32 × Int32 × Int32 × A32 × A32 × Int32, f_X10_walks cg cone ctwo cbr csize ckinds copen (b2i moon) cout cgone cgas cplace x1 x2 x3 x4 x5 x6 x7 (nI times) (nI seed) 0 = some (wAns M st 0, y) := hwk 0 (by decide)
  have wk1 : ∀ (x1 x2 x3 x4 : Int32) (x5 x6 : A32) (x7 : Int32), ∃ y : Int32 × Int32 × Int32 × Int32 × A32 × A32 × Int32, f_X10_walks cg cone ctwo cbr csize ckinds copen (b2i moon) cout cgone cgas cplace x1 x2 x3 x4 x5 x6 x7 (nI times) (nI seed) 1 = some (wAns M st 1, y) := hwk 1 (by decide)
  have wk2 : ∀ (x1 x2 x3 x4 : Int32) (x5 x6 : A32) (x7 : Int32), ∃ y : Int32 × Int32 × Int32 × Int32 × A32 × A32 × Int32, f_X10_walks cg cone ctwo cbr csize ckinds copen (b2i moon) cout cgone cgas cplace x1 x2 x3 x4 x5 x6 x7 (nI times) (nI seed) 2 = some (wAns M st 2, y) := hwk 2 (by decide)
  have wk3 : ∀ (x1 x2 x3 x4 : Int32) (x5 x6 : A32) (x7 : Int32), ∃ y : Int32 × Int32 × Int32 × Int32 × A32 × A32 × Int32, f_X10_walks cg cone ctwo cbr csize ckinds copen (b2i moon) cout cgone cgas cplace x1 x2 x3 x4 x5 x6 x7 (nI times) (nI seed) 3 = some (wAns M st 3, y) := hwk 3 (by decide)
  obtain ⟨y0, w0⟩ := wk0 x1 x2 x3 x4 x5 x6 x7
  rw [w0, bnd_e]
  dsimp only
  rw [if_pos (show wAns M st 0 = nI (fb_ct st.2.2.2 7) by rw [hct]; rfl)]
  obtain ⟨y1, w1⟩ := wk1 y0.1 y0.2.1 y0.2.2.1 y0.2.2.2.1 y0.2.2.2.2.1 y0.2.2.2.2.2.1 y0.2.2.2.2.2.2
  rw [w1, bnd_e]
  dsimp only
  obtain ⟨y2, w2⟩ := wk2 y1.1 y1.2.1 y1.2.2.1 y1.2.2.2.1 y1.2.2.2.2.1 y1.2.2.2.2.2.1 y1.2.2.2.2.2.2
  obtain ⟨y3, w3⟩ := wk3 y2.1 y2.2.1 y2.2.2.1 y2.2.2.2.1 y2.2.2.2.2.1 y2.2.2.2.2.2.1 y2.2.2.2.2.2.2
  have fin : ∀ t : Int32, wAns M st 1 = t → f_L_walks_b399 59 22 cg cone ctwo cbr csize ckinds copen (b2i moon) cout cgone cgas cplace y1.1 y1.2.1 y1.2.2.1 y1.2.2.2.1 y1.2.2.2.2.1 y1.2.2.2.2.2.1 y1.2.2.2.2.2.2 c a (wAns M st 1) t (nI times) (nI seed) (lN st.2.1) (nI (fb_sm st.2.2.1 7)) = some (1, y3) := by
    intro t ht
    unfold f_L_walks_b399
    rw [if_pos ht, w2, bnd_e]
    dsimp only
    rw [if_pos (show wAns M st 2 = nI (fb_sm st.2.2.1 7) from rfl), w3, bnd_e]
    dsimp only
    rw [show wAns M st 3 = nI st.2.1 from rfl, nI_l k2, cmp_self, if_pos rfl]
  refine ⟨y3, ?_⟩
  rw [if_pos (show inB 20 22 by decide), cl20]
  by_cases hM0 : M = 0
  · rw [if_pos (show c 20 = 0 by rw [p4, hM0]; rfl)]
    exact fin (-1) (by unfold wAns; rw [if_neg (by decide), if_pos rfl, if_pos hM0])
  · rw [if_neg (show ¬ c 20 = 0 by rw [p4]; exact nI_ne0 (by omega) (by omega)), if_pos (show inB 13 22 by decide), cl13]
    exact fin (c 13) (by unfold wAns; rw [if_neg (by decide), if_pos rfl, if_neg hM0]; exact ((p2 0 (by omega)).2).symm)
