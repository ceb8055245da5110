/-! walks by a seed -/
def kth (p : Nat → Bool) (w : Nat) : Nat → Nat
  | 0 => 0
  | n + 1 => if p n = true ∧ fb_ct p n = w then n else kth p w n
theorem kth_e {p : Nat → Bool} {w i : Nat} (h1 : p i = true) (h2 : fb_ct p i = w) : ∀ n, i < n → kth p w n = i := by
  intro n
  induction n with
  | zero => intro h; exact absurd h (Nat.not_lt_zero i)
  | succ n ih =>
    intro h
    unfold kth
    by_cases q : p n = true ∧ fb_ct p n = w
    · rw [if_pos q]
      exact fb_ct_kth_one q.1 h1 (by omega)
    · rw [if_neg q]
      refine ih ?_
      rcases Nat.lt_or_ge i n with r | r
      · exact r
      · have : i = n := by omega
        subst this
        exact absurd ⟨h1, h2⟩ q
abbrev WS : Type := (Nat → Nat) × Nat × (Nat → Nat) × (Nat → Bool)
/-- one man walks: where all are, the seed -/
def dW (M G : Nat) (one two : Nat → Nat) (opn out : Nat → Bool) (place : Nat → Nat) (q : Nat) : (Nat → Nat) × Nat :=
  if M = 0 then (place, q)
  else if out (nxt q / 65536 % M) = true then (place, nxt q)
  else if fb_ct (wys one two opn (place (nxt q / 65536 % M))) G = 0 then (place, nxt q)
  else (fun j => if j = nxt q / 65536 % M then (if one (kth (wys one two opn (place (nxt q / 65536 % M))) (nxt (nxt q) / 65536 % fb_ct (wys one two opn (place (nxt q / 65536 % M))) G) G) = place (nxt q / 65536 % M) then two (kth (wys one two opn (place (nxt q / 65536 % M))) (nxt (nxt q) / 65536 % fb_ct (wys one two opn (place (nxt q / 65536 % M))) G) G) else one (kth (wys one two opn (place (nxt q / 65536 % M))) (nxt (nxt q) / 65536 % fb_ct (wys one two opn (place (nxt q / 65536 % M))) G) G)) else place j, nxt (nxt q))
def wS (M G : Nat) (one two : Nat → Nat) (opn : Nat → Bool) (kind : Nat → Nat) (b : Nat → Bool) (s0 : WS) : Nat → WS
  | 0 => s0
  | n + 1 => ((dW M G one two opn (wS M G one two opn kind b s0 n).2.2.2 (wS M G one two opn kind b s0 n).1 (wS M G one two opn kind b s0 n).2.1).1, (dW M G one two opn (wS M G one two opn kind b s0 n).2.2.2 (wS M G one two opn kind b s0 n).1 (wS M G one two opn kind b s0 n).2.1).2, gas1 b (wS M G one two opn kind b s0 n).2.2.1, fun i => (wS M G one two opn kind b s0 n).2.2.2 i || (decide (i < M) && decide (brs (kind i) < gas1 b (wS M G one two opn kind b s0 n).2.2.1 ((dW M G one two opn (wS M G one two opn kind b s0 n).2.2.2 (wS M G one two opn kind b s0 n).1 (wS M G one two opn kind b s0 n).2.1).1 i))))
/-- the walks' state is as it may be -/
def WSok (M : Nat) (s : WS) : Prop := (∀ m, m < M → s.1 m < 7) ∧ s.2.1 < 2147483648 ∧ (∀ k, k < 7 → s.2.2.1 k ≤ 9) ∧ ∀ i, M ≤ i → s.2.2.2 i = false
section WK
variable {M G : Nat} {one two len dr : Nat → Nat} {opn : Nat → Bool} {kind : Nat → Nat} {b : Nat → Bool}
theorem kth_lt (hw : WF G one two len dr) (p : Nat → Bool) (w : Nat) : kth p w G < G := by
  have hG := hw.1
  have : ∀ n, 0 < n → kth p w n < n := by
    intro n
    induction n with
    | zero => intro h; exact absurd h (Nat.lt_irrefl 0)
    | succ n ih =>
      intro _
      unfold kth
      split
      · omega
      · rcases Nat.eq_zero_or_pos n with r | r
        · subst r
          exact Nat.lt_succ_self 0
        · have := ih r
          omega
  exact this G (by omega)
theorem dW_ok (hw : WF G one two len dr) {out : Nat → Bool} {place : Nat → Nat} {q : Nat} (h1 : ∀ m, m < M → place m < 7) (h2 : q < 2147483648) : (∀ m, m < M → (dW M G one two opn out place q).1 m < 7) ∧ (dW M G one two opn out place q).2 < 2147483648 := by
  unfold dW
  split
  · exact ⟨h1, h2⟩
  · split
    · exact ⟨h1, nxt_lt q⟩
    · split
      · exact ⟨h1, nxt_lt q⟩
      · refine ⟨fun m hm => ?_, nxt_lt _⟩
        try dsimp only
        have hk := kth_lt hw (wys one two opn (place (nxt q / 65536 % M))) (nxt (nxt q) / 65536 % fb_ct (wys one two opn (place (nxt q / 65536 % M))) G)
        obtain ⟨w1, w2, -⟩ := hw.2.1 _ hk
        split
        · split <;> assumption
        · exact h1 m hm
theorem wS_ok (hw : WF G one two len dr) {s0 : WS} (h : WSok M s0) : ∀ n, WSok M (wS M G one two opn kind b s0 n) := by
  intro n
  induction n with
  | zero => exact h
  | succ n ih =>
    obtain ⟨a1, a2, a3, a4⟩ := ih
    have hd := dW_ok (opn := opn) (out := (wS M G one two opn kind b s0 n).2.2.2) hw a1 a2
    refine ⟨hd.1, hd.2, fun k _ => gas1_le, fun i hi => ?_⟩
    show ((wS M G one two opn kind b s0 n).2.2.2 i || _) = false
    rw [a4 i hi, decide_eq_false (by omega)]
    rfl
end WK
section WK2
variable {cg cdoors cshafts : Int32} {cone ctwo clen cdr : A32} {M G T : Nat} {one two len dr : Nat → Nat} {dor opn : Nat → Bool} {kind : Nat → Nat} {b : Nat → Bool}
theorem dream_e (hM : MA cg cdoors cshafts cone ctwo clen cdr G one two len dor dr) (hw : WF G one two len dr) {copen : Int32} (ho : ∀ g, g < G → bt copen g = opn g) (hM6 : M ≤ 6) {place : Nat → Nat} {q : Nat} {out : Nat → Bool} {cout : Int32} (hp : ∀ m, m < M → place m < 7) (hq : q < 2147483648) (hout : ∀ i, i < 32 → bt cout i = out i) {cplace : A32} (hcp : ∀ m, m < M → cplace m = nI (place m)) :
    ∃ cplace', f_X10_dreamWalk cg cone ctwo (nI M) copen cout cplace (nI q) = some (cplace', nI (dW M G one two opn out place q).2) ∧ ∀ m, m < M → cplace' m = nI ((dW M G one two opn out place q).1 m) := by
  have hG := hw.1
  unfold f_X10_dreamWalk
  by_cases h0 : M = 0
  · refine ⟨cplace, ?_, ?_⟩
    · rw [h0]
      unfold dW
      rw [if_pos (show nI 0 = 0 from rfl), if_pos (rfl : (0 : Nat) = 0)]
    · unfold dW
      rw [if_pos h0]
      exact hcp
  · rw [if_neg (nI_ne0 (by omega) (by omega)), draw_e hq (by omega) (by omega), bnd_e]
    have hm : nxt q / 65536 % M < M := Nat.mod_lt _ (by omega)
    unfold dW
    rw [if_neg h0]
    generalize nxt q / 65536 % M = m at *
    try dsimp only
    rw [fbit_e _ (by omega), bnd_e, hout m (by omega)]
    cases hom : out m
    · rw [b2i_f, if_neg (by decide), if_neg (by decide), get_e cplace (by omega) (by decide), bnd_e, hcp m hm]
      obtain ⟨x, ex, hx⟩ := galsAt_e hM hw ho (hp m hm)
      rw [ex, bnd_e]
      have hx10 : ∀ i, 10 ≤ i → i < 32 → bt x i = false := fun i h1 h2 => by rw [hx i h2, decide_eq_false (by omega)]; rfl
      have hcG : fb_ct (bt x) 10 = fb_ct (wys one two opn (place m)) G := by
        rw [ct_cut hG.2 (fun i h1 h2 => by rw [hx i (by omega), decide_eq_false (by omega)]; rfl)]
        exact fb_ct_cong (fun i hi => by rw [hx i (by omega), decide_eq_true hi]; rfl)
      by_cases hc : fb_ct (wys one two opn (place m)) G = 0
      · have hx0 : x = 0 := b_ext (fun i hi => by
          rw [b_0]
          rcases Nat.lt_or_ge i 10 with r | r
          · exact fb_ct_zero.mp (hcG.trans hc) i r
          · exact hx10 i r hi)
        rw [if_pos hx0, if_pos hc]
        exact ⟨cplace, rfl, hcp⟩
      · have hx0 : x ≠ 0 := fun e => by
          subst e
          have : fb_ct (bt 0) 10 = 0 := fb_ct_zero.mpr (fun i _ => b_0 i)
          omega
        rw [if_neg hx0, if_neg hc, bc_e hx10, bnd_e, hcG, draw_e (nxt_lt q) (by omega) (by have := fb_ct_le (wys one two opn (place m)) G; omega), bnd_e]
        have hwl : nxt (nxt q) / 65536 % fb_ct (wys one two opn (place m)) G < fb_ct (wys one two opn (place m)) G := Nat.mod_lt _ (by omega)
        generalize nxt (nxt q) / 65536 % fb_ct (wys one two opn (place m)) G = w at *
        obtain ⟨i, i1, i2, i3, i4⟩ := place_e hx10 (w := w) (by omega)
        try dsimp only
        rw [i4, bnd_e]
        have hiG : i < G ∧ wys one two opn (place m) i = true := by
          rw [hx i (by omega), Bool.and_eq_true, decide_eq_true_eq] at i2
          exact i2
        have hci : fb_ct (wys one two opn (place m)) i = w := by
          rw [← i3]
          exact fb_ct_cong (fun j hj => by rw [hx j (by omega), decide_eq_true (by omega)]; rfl)
        rw [kth_e hiG.2 hci G hiG.1, oth_e hM hw hiG.1 (hp m hm), bnd_e, set_e _ _ (by omega) (by decide), bnd_e]
        refine ⟨_, rfl, fun j hj => ?_⟩
        rw [upd_e]
        by_cases r : j = m
        · rw [if_pos r, if_pos r]
        · rw [if_neg r, if_neg r]
          exact hcp j hj
    · rw [b2i_t, if_pos rfl, if_pos rfl]
      exact ⟨cplace, rfl, hcp⟩
/-- what the class says of walks -/
def wAns (M : Nat) (s : WS) (what : Nat) : Int32 :=
  if what = 0 then nI (fb_ct s.2.2.2 6) else if what = 1 then (if M = 0 then -1 else nI (s.1 0)) else if what = 2 then nI (fb_sm s.2.2.1 7) else nI s.2.1
theorem walks_e (hM : MA cg cdoors cshafts cone ctwo clen cdr G one two len dor dr) (hw : WF G one two len dr) {copen : Int32} (ho : ∀ g, g < G → bt copen g = opn g) {csize cout cgone br : Int32} {ckinds cplace cgas : A32} {gas place : Nat → Nat} {outx : Int32} (hC : CM csize ckinds cplace cgas cout cgone gas kind place outx M T) (hW : WM gas kind place outx M T) (hb : ∀ k, k < 7 → bt br k = b k) {moon : Bool}
    {times seed what : Nat} (t1 : 1 ≤ times) (t2 : times ≤ 60) (hTt : T + times < 100000) (hs : seed < 2147483648) (hwh : what < 4) (x1 x2 x3 x4 : Int32) (x5 x6 : A32) (x7 : Int32) :
    ∃ y : Int32 × Int32 × Int32 × Int32 × A32 × A32 × Int32, f_X10_walks cg cone ctwo br csize ckinds copen (b2i moon) cout cgone cgas cplace x1 x2 x3 x4 x5 x6 x7 (nI times) (nI seed) (nI what) = some (wAns M (wS M G one two opn kind b (place, seed, gas, bt outx) times) what, y) := by
  have hG := hw.1
  obtain ⟨c1, c2, c3, rfl, rfl⟩ := hC
  obtain ⟨hM6, hg9, hkp, hob, hT⟩ := hW
  subst c1
  have ok0 : WSok M (place, seed, gas, bt cout) := ⟨fun m hm => (hkp m hm).2, hs, hg9, fun i hi => by
    rcases Nat.lt_or_ge i 32 with r | r
    · exact hob i hi r
    · exact b_big r⟩
  obtain ⟨g1, eg, hg1⟩ := copyR_e (n := 7) (by decide) x5 cgas
  obtain ⟨p1, ep, hp1⟩ := copyR_e (n := 6) (by decide) x6 cplace
  obtain ⟨⟨o', t', g', p', q'⟩, ⟨r1, r2, r3, r4⟩, e⟩ := lp (fun fu (s : Int32 × Nat × A32 × A32 × Nat) i => f_X10_walks_b62 cg cone ctwo br (nI M) ckinds copen (b2i moon) (nI times) (nI what) fu s.1 (nI s.2.1) s.2.2.1 s.2.2.2.1 (nI s.2.2.2.2) (nI i)) times
    (fun i s => s.2.1 = T + i ∧ s.2.2.2.2 = (wS M G one two opn kind b (place, seed, gas, bt cout) i).2.1 ∧ ((∀ m, m < M → s.2.2.2.1 m = nI ((wS M G one two opn kind b (place, seed, gas, bt cout) i).1 m)) ∧ (∀ k, k < 7 → s.2.2.1 k = nI ((wS M G one two opn kind b (place, seed, gas, bt cout) i).2.2.1 k))) ∧ ∀ j, j < 32 → bt s.1 j = (wS M G one two opn kind b (place, seed, gas, bt cout) i).2.2.2 j)
    (fun s => f_X10_walks_b62 cg cone ctwo br (nI M) ckinds copen (b2i moon) (nI times) (nI what) 1 s.1 (nI s.2.1) s.2.2.1 s.2.2.2.1 (nI s.2.2.2.2) (nI times)) (by
      rintro fu i ⟨o, t, g, p, q⟩ hi ⟨s1, s2, ⟨s3, s4⟩, s5⟩
      try dsimp only at s1 s2 s3 s4 s5
      subst s1 s2
      obtain ⟨k1, k2, k3, k4⟩ := wS_ok (opn := opn) (kind := kind) (b := b) hw ok0 i
      obtain ⟨pl', ed, hpl⟩ := dream_e hM hw ho hM6 k1 k2 s5 s3
      have hd := dW_ok (opn := opn) (out := (wS M G one two opn kind b (place, seed, gas, bt cout) i).2.2.2) hw k1 k2
      obtain ⟨o1, g1, epp, q1, q2⟩ := pass_e (gas := (wS M G one two opn kind b (place, seed, gas, bt cout) i).2.2.1) (kind := kind) (place := (dW M G one two opn (wS M G one two opn kind b (place, seed, gas, bt cout) i).2.2.2 (wS M G one two opn kind b (place, seed, gas, bt cout) i).1 (wS M G one two opn kind b (place, seed, gas, bt cout) i).2.1).1) (out := o) (M := M) (T := T + i) (br := br) (cplace := pl') ⟨hM6, k3, fun m hm => ⟨(hkp m hm).1, hd.1 m hm⟩, fun j hj hj2 => by rw [s5 j hj2, k4 j hj], by omega⟩ s4 (fun m hm => (c2 m hm).1) hpl hb
      refine ⟨(o1, T + (i + 1), g1, pl', (dW M G one two opn (wS M G one two opn kind b (place, seed, gas, bt cout) i).2.2.2 (wS M G one two opn kind b (place, seed, gas, bt cout) i).1 (wS M G one two opn kind b (place, seed, gas, bt cout) i).2.1).2), ⟨rfl, rfl, ⟨hpl, q1⟩, fun j hj => ?_⟩, ?_⟩
      · try dsimp only
        rw [q2 j hj, s5 j hj]
        rfl
      · simp (disch := omega) only [f_X10_walks_b62, leF, if_false, ed, bnd_e, epp, nam_e, nI_1]
        rfl) (by
      rintro fu ⟨o, t, g, p, q⟩ -
      simp (disch := omega) only [f_X10_walks_b62, leT, if_true]) (i := 0) (k := times) (fu := FU) (s := (cout, T, g1, p1, seed)) (by omega) (FU_lt (by omega)) ⟨rfl, rfl, ⟨fun m hm => by
        show p1 m = _
        rw [hp1 m (by omega)]
        exact (c2 m hm).2, fun k hk => by
        show g1 k = _
        rw [hg1 k hk]
        exact c3 k hk⟩, fun j _ => rfl⟩
  try dsimp only at r1 r2 r3 r4 e
  subst r1 r2
  obtain ⟨k1, k2, k3, k4⟩ := wS_ok (opn := opn) (kind := kind) (b := b) hw ok0 times
  have hfin : ∃ y, f_X10_walks_b62 cg cone ctwo br (nI M) ckinds copen (b2i moon) (nI times) (nI what) 1 o' (nI (T + times)) g' p' (nI (wS M G one two opn kind b (place, seed, gas, bt cout) times).2.1) (nI times) = some (wAns M (wS M G one two opn kind b (place, seed, gas, bt cout) times) what, y) := by
    have hbc : f_J6_bitCount_0f7a4 o' = some (nI (fb_ct (wS M G one two opn kind b (place, seed, gas, bt cout) times).2.2.2 6)) := by
      rw [bc_n (n := 6) (by decide) (fun j h1 h2 => by rw [r4 j h2, k4 j (by omega)]), fb_ct_cong (fun j hj => r4 j (by omega))]
    have hsum := sum_e k3 r3.2
    rcases (show what = 0 ∨ what = 1 ∨ what = 2 ∨ what = 3 by omega) with rfl | rfl | rfl | rfl
    · refine ⟨(copen, b2i moon, o', nI (T + times), g', p', nI (wS M G one two opn kind b (place, seed, gas, bt cout) times).2.1), ?_⟩
      simp (disch := omega) only [f_X10_walks_b62, leT, if_true, eq0T, hbc, bnd_e]
      rfl
    · have h10 : (nI 1 = 0) = False := eq_false (by decide)
      have h11 : (nI 1 = 1) = True := eq_true rfl
      by_cases hM0 : M = 0
      · refine ⟨(copen, b2i moon, o', nI (T + times), g', p', nI (wS M G one two opn kind b (place, seed, gas, bt cout) times).2.1), ?_⟩
        subst hM0
        have hh : f_X1_has (nI 0) 0 = some 0 := by decide
        simp (disch := omega) only [f_X10_walks_b62, leT, if_true, h10, h11, if_false, hh, bnd_e]
        rfl
      · refine ⟨(copen, b2i moon, o', nI (T + times), g', p', nI (wS M G one two opn kind b (place, seed, gas, bt cout) times).2.1), ?_⟩
        have hh : f_X1_has (nI M) 0 = some 1 := has_e (m := 0) hM6 (by omega)
        have hg : f_X8_get 6 p' 0 = some (p' 0) := get_e (i := 0) p' (by decide) (by decide)
        have one0 : ((1 : Int32) = 0) = False := eq_false (by decide)
        simp (disch := omega) only [f_X10_walks_b62, leT, if_true, h10, h11, if_false, hh, hg, bnd_e, one0, r3.1 0 (by omega)]
        unfold wAns
        rw [if_neg (by decide), if_pos rfl, if_neg hM0]
    · have h20 : (nI 2 = 0) = False := eq_false (by decide)
      have h21 : (nI 2 = 1) = False := eq_false (by decide)
      have h22 : (nI 2 = 2) = True := eq_true rfl
      refine ⟨(copen, b2i moon, o', nI (T + times), g', p', nI (wS M G one two opn kind b (place, seed, gas, bt cout) times).2.1), ?_⟩
      simp (disch := omega) only [f_X10_walks_b62, leT, if_true, h20, h21, h22, if_false, hsum, bnd_e]
      rfl
    · have h30 : (nI 3 = 0) = False := eq_false (by decide)
      have h31 : (nI 3 = 1) = False := eq_false (by decide)
      have h32 : (nI 3 = 2) = False := eq_false (by decide)
      refine ⟨(copen, b2i moon, o', nI (T + times), g', p', nI (wS M G one two opn kind b (place, seed, gas, bt cout) times).2.1), ?_⟩
      simp (disch := omega) only [f_X10_walks_b62, leT, if_true, h30, h31, h32, if_false]
      rfl
  obtain ⟨y, ey⟩ := hfin
  refine ⟨y, ?_⟩
  unfold f_X10_walks f_X3_copyFrom
  have hmoon : b2i moon = 0 ∨ b2i moon = 1 := by cases moon <;> simp [b2i]
  rw [show f_X5_isRead cg = some 1 by rw [hM.1]; exact isRead_e hG.1 hG.2, bnd_e, if_neg (by decide), if_neg (show ¬ nI times < 1 from nI_nlt (b := 1) t1 (by omega)), if_neg (show ¬ (60 : Int32) < nI times from nI_nlt (a := 60) t2 (by decide)), if_neg (nI_pos (n := seed) (by omega)), if_neg (nI_pos (n := what) (by omega)), if_pos (show nI what ≤ 3 from nI_le (b := 3) (by omega) (by decide)), if_pos hmoon, eg, ep, bnd_e, bnd_e, bnd_e]
  try dsimp only
  exact e.trans ey
end WK2
