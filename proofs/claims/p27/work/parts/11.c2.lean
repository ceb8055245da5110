/-! the class's table of lengths -/
theorem fill_e {n : Nat} (hn : n < 1000) (c : A32) (v : Int32) : ∃ c', f_X8_fill n c v = some c' ∧ ∀ i, i < n → c' i = v := by
  obtain ⟨c', h, e⟩ := lp (fun fu (s : A32) i => f_X8_fill_b2 n v fu s (nI i)) n (fun i s => ∀ j, j < i → s j = v) (fun s => some s) (by
      intro fu i s hi hs
      refine ⟨upd s i v, fun j hj => ?_, ?_⟩
      · rw [upd_e]
        by_cases q : j = i
        · rw [if_pos q]
        · rw [if_neg q]; exact hs j (by omega)
      · simp (disch := omega) only [f_X8_fill_b2, leF, if_false, inT, if_true, cl_e, nam_e, nI_1]) (by
      intro fu s _
      simp (disch := omega) only [f_X8_fill_b2, leT, if_true]) (i := 0) (k := n) (fu := FU) (s := c) (by omega) (FU_lt (by omega)) (fun j h => absurd h (Nat.not_lt_zero j))
  exact ⟨c', e, h⟩
def TA (c : A32) (T : Tab) : Prop := ∀ u v, u < 7 → v < 7 → c (u * 7 + v) = hI (T u v)
theorem ix7 (u v : Nat) : nI u * 7 + nI v = nI (u * 7 + v) := by rw [k7, pk_mul, nI_add]
theorem TA.put {c : A32} {T T' : Tab} {u v : Nat} {z : Option Nat} (h : TA c T) (hu : u < 7) (hv : v < 7) (h1 : T' u v = z) (h2 : ∀ x y, x < 7 → y < 7 → ¬ (x = u ∧ y = v) → T' x y = T x y) : TA (upd c (u * 7 + v) (hI z)) T' := by
  intro x y hx hy
  rw [upd_e]
  by_cases q : x = u ∧ y = v
  · obtain ⟨rfl, rfl⟩ := q
    rw [if_pos rfl, h1]
  · rw [if_neg (by omega), h2 x y hx hy q]
    exact h x y hx hy
theorem btw_e {c : A32} {T : Tab} (h : TA c T) {u v : Nat} (hu : u < 7) (hv : v < 7) : f_X9_between c (nI u) (nI v) = some (hI (T u v)) := by
  unfold f_X9_between
  rw [ix7, get_e c (by omega) (by decide), bnd_e, h u v hu hv]
theorem link_e {c : A32} {T T' : Tab} (h : TA c T) {u v l : Nat} (hu : u < 7) (hv : v < 7) (hb : ∀ x, T u v = some x → x < 2 ^ 30) (hl : l < 2 ^ 30) (h1 : T' u v = mnO (T u v) (some l)) (h2 : ∀ x y, x < 7 → y < 7 → ¬ (x = u ∧ y = v) → T' x y = T x y) :
    ∃ c', f_X9_link c (nI u) (nI v) (nI l) = some c' ∧ TA c' T' := by
  have hset : f_X9_link_b20 c (nI u) (nI v) (nI l) = some (upd c (u * 7 + v) (hI (some l))) := by
    unfold f_X9_link_b20
    rw [ix7, set_e c _ (by omega) (by decide), bnd_e]
    rfl
  unfold f_X9_link
  rw [btw_e h hu hv, bnd_e, hset]
  cases hT : T u v with
  | none =>
    rw [if_pos (show hI none = -1 from rfl)]
    rw [hT] at h1
    exact ⟨_, rfl, h.put hu hv h1 h2⟩
  | some x =>
    have hx := hb x hT
    rw [if_neg (by rw [hI_nn (fun y e => by cases e; exact hx)]; simp)]
    rw [show hI (some x) = nI x from rfl, iteL (by omega) (by omega)]
    rw [hT] at h1
    by_cases q : x ≤ l
    · rw [if_pos q]
      refine ⟨c, rfl, fun a b ha hb' => ?_⟩
      by_cases q2 : a = u ∧ b = v
      · obtain ⟨rfl, rfl⟩ := q2
        rw [h1, h a b ha hb', hT]
        simp only [mnO, if_pos q]
      · rw [h2 a b ha hb' q2]
        exact h a b ha hb'
    · rw [if_neg q]
      refine ⟨_, rfl, h.put hu hv ?_ h2⟩
      rw [h1]
      simp only [mnO, if_neg q]
/-- one row of a phase -/
theorem row_e {c : A32} {T : Tab} (h : TA c T) {k u : Nat} (hk : k < 7) (hu : u < 7) (h0 : T k k = some 0) (hb : ∀ x y z, T x y = some z → z < 2 ^ 20) (k2 k10 : A32 → Int32 → Option A32) :
    ∃ c', f_X9_joinWays_b26 k2 k10 (nI k) (nI u) (hI (T u k)) FU c 0 = k10 c' (nI (u + 1)) ∧ TA c' (fun x y => if x = u then mnO (T x y) (adO (T x k) (T k y)) else T x y) := by
  cases hT : T u k with
  | none =>
    refine ⟨c, ?_, fun x y hx hy => ?_⟩
    · obtain ⟨fu, hfu⟩ : ∃ q, FU = q + 1 := ⟨99999, rfl⟩
      rw [hfu, show f_X9_joinWays_b26 k2 k10 (nI k) (nI u) (hI none) (fu + 1) c 0 = f_X9_joinWays_b26 k2 k10 (nI k) (nI u) (hI none) (fu + 1) c (nI 0) from rfl]
      simp (disch := omega) only [f_X9_joinWays_b26, f_X9_joinWays_b70, le7F, if_false, hI, if_true, nam_e, nI_1]
    · try dsimp only
      by_cases q : x = u
      · subst q
        rw [if_pos rfl, hT, show adO none (T k y) = none from rfl, mnO_none]
        exact h x y hx hy
      · rw [if_neg q]
        exact h x y hx hy
  | some a =>
    have ha := hb _ _ _ hT
    have hna : (nI a = (-1 : Int32)) = False := nI_nm1 (by omega)
    obtain ⟨c', h1, e⟩ := lp (fun fu (s : A32) i => f_X9_joinWays_b26 k2 k10 (nI k) (nI u) (nI a) fu s (nI i)) 7
      (fun i s => TA s (fun x y => if x = u ∧ y < i then mnO (T x y) (adO (T x k) (T k y)) else T x y))
      (fun s => k10 s (nI (u + 1))) (by
        intro fu i s hi hs
        have hkT : (if k = u ∧ i < i then mnO (T k i) (adO (T k k) (T k i)) else T k i) = T k i := if_neg (fun q => by omega)
        have hb1 := btw_e hs hk hi
        rw [hkT] at hb1
        cases hTk : T k i with
        | none =>
          refine ⟨s, fun x y hx hy => ?_, ?_⟩
          · rw [hs x y hx hy]
            try dsimp only
            by_cases q : x = u ∧ y = i
            · obtain ⟨rfl, rfl⟩ := q
              rw [if_neg (fun q => by omega), if_pos ⟨rfl, by omega⟩, hTk, show adO (T x k) none = none from by cases T x k <;> rfl, mnO_none]
            · by_cases q2 : x = u ∧ y < i
              · rw [if_pos q2, if_pos ⟨q2.1, by omega⟩]
              · rw [if_neg q2, if_neg (fun q3 => by omega)]
          · rw [hTk] at hb1
            simp (disch := omega) only [f_X9_joinWays_b26, f_X9_joinWays_b64, le7F, if_false, hna, hb1, bnd_e, hI, if_true, nam_e, nI_1]
        | some b =>
          have hbb := hb _ _ _ hTk
          rw [hTk] at hb1
          have hnb : (nI b = (-1 : Int32)) = False := nI_nm1 (by omega)
          have huT : (if u = u ∧ i < i then mnO (T u i) (adO (T u k) (T k i)) else T u i) = T u i := if_neg (fun q => by omega)
          obtain ⟨c', e1, e2⟩ := link_e (T' := fun x y => if x = u ∧ y < i + 1 then mnO (T x y) (adO (T x k) (T k y)) else T x y) (l := a + b) hs hu hi (fun x q => by rw [huT] at q; have := hb _ _ _ q; omega) (by omega)
            (by rw [huT, if_pos ⟨rfl, by omega⟩, hT, hTk]; rfl)
            (fun x y hx hy q => by
              by_cases q2 : x = u ∧ y < i
              · rw [if_pos q2, if_pos ⟨q2.1, by omega⟩]
              · rw [if_neg q2, if_neg (fun q3 => by omega)])
          refine ⟨c', e2, ?_⟩
          simp (disch := omega) only [f_X9_joinWays_b26, f_X9_joinWays_b64, le7F, if_false, hna, hb1, bnd_e, hI, hnb, nI_add, e1, nam_e, nI_1]) (by
        intro fu s _
        simp (disch := omega) only [f_X9_joinWays_b26, f_X9_joinWays_b70, le7T, if_true, nam_e, nI_1]) (i := 0) (k := 7) (fu := FU) (s := c) rfl (FU_lt (by decide)) (fun x y hx hy => by
          try dsimp only
          rw [if_neg (fun q => by omega)]
          exact h x y hx hy)
    refine ⟨c', e, fun x y hx hy => ?_⟩
    rw [h1 x y hx hy]
    try dsimp only
    by_cases q : x = u
    · rw [if_pos ⟨q, hy⟩, if_pos q]
    · rw [if_neg (fun q2 => q q2.1), if_neg q]
theorem phs_e {c : A32} {T : Tab} (h : TA c T) {k : Nat} (hk : k < 7) (h0 : T k k = some 0) (hb : ∀ x y z, T x y = some z → z < 2 ^ 19) (k2 : A32 → Int32 → Option A32) :
    ∃ c', f_X9_joinWays_b10 k2 (nI k) FU c 0 = k2 c' (nI (k + 1)) ∧ TA c' (phs T k) := by
  obtain ⟨c', h1, e⟩ := lp (fun fu (s : A32) i => f_X9_joinWays_b10 k2 (nI k) fu s (nI i)) 7
    (fun i s => TA s (fun x y => if x < i then phs T k x y else T x y)) (fun s => k2 s (nI (k + 1))) (by
      intro fu i s hi hs
      let Ti : Tab := fun x y => if x < i then phs T k x y else T x y
      have hkk : ∀ y, Ti k y = T k y := fun y => by
        show (if k < i then phs T k k y else T k y) = T k y
        split
        · unfold phs
          rw [h0, adO_zero, mnO_self]
        · rfl
      have hii : ∀ y, Ti i y = T i y := fun y => if_neg (Nat.lt_irrefl i)
      obtain ⟨c', e1, e2⟩ := row_e (T := Ti) hs hk hi (by rw [hkk]; exact h0) (fun x y z q => by
        have q : (if x < i then phs T k x y else T x y) = some z := q
        split at q
        · rcases phs_c q with r | ⟨a, b, r1, r2, r3⟩
          · have := hb _ _ _ r; omega
          · have := hb _ _ _ r1; have := hb _ _ _ r2; omega
        · have := hb _ _ _ q; omega) k2 (f_X9_joinWays_b10 k2 (nI k) fu)
      have hbt := btw_e hs hi hk
      refine ⟨c', fun x y hx hy => ?_, ?_⟩
      · rw [e2 x y hx hy]
        try dsimp only
        by_cases q : x = i
        · subst q
          rw [if_pos rfl, if_pos (Nat.lt_succ_self x), hii, hii, hkk]
          rfl
        · rw [if_neg q]
          show hI (if x < i then phs T k x y else T x y) = _
          by_cases q2 : x < i
          · rw [if_pos q2, if_pos (by omega)]
          · rw [if_neg q2, if_neg (by omega)]
      · simp (disch := omega) only [f_X9_joinWays_b10, le7F, if_false, hbt, bnd_e]
        exact e1) (by
      intro fu s _
      simp (disch := omega) only [f_X9_joinWays_b10, le7T, if_true, nam_e, nI_1]) (i := 0) (k := 7) (fu := FU) (s := c) rfl (FU_lt (by decide)) (fun x y hx hy => by
        try dsimp only
        rw [if_neg (Nat.not_lt_zero x)]
        exact h x y hx hy)
  refine ⟨c', e, fun x y hx hy => ?_⟩
  rw [h1 x y hx hy]
  try dsimp only
  rw [if_pos hx]
theorem join_e {c : A32} {T : Tab} (h : TA c T) (h0 : ∀ u, u < 7 → T u u = some 0) (hb : ∀ x y z, T x y = some z → z ≤ 9) : ∃ c', f_X9_joinWays c = some c' ∧ TA c' (fw T 7) := by
  have p7 : ∀ n, n < 7 → 2 ^ n ≤ 64 := by decide
  obtain ⟨c', h1, e⟩ := lp (fun fu (s : A32) i => f_X9_joinWays_b2 fu s (nI i)) 7 (fun i s => TA s (fw T i)) (fun s => some s) (by
      intro fu i s hi hs
      obtain ⟨c', e1, e2⟩ := phs_e hs hi (fw_0 h0 i i hi) (fun x y z q => by
        have b1 := fw_bound hb i x y z q
        have b2 := p7 i hi
        omega) (f_X9_joinWays_b2 fu)
      refine ⟨c', e2, ?_⟩
      simp (disch := omega) only [f_X9_joinWays_b2, le7F, if_false]
      exact e1) (by
      intro fu s _
      simp (disch := omega) only [f_X9_joinWays_b2, le7T, if_true]) (i := 0) (k := 7) (fu := FU) (s := c) rfl (FU_lt (by decide)) h
  exact ⟨c', e, h1⟩
theorem clear_e (c : A32) : ∃ c', f_X9_clear c = some c' ∧ TA c' (fun u v => if u = v then some 0 else none) := by
  obtain ⟨c1, e1, h1⟩ := fill_e (n := 49) (by decide) c (-1)
  unfold f_X9_clear
  rw [e1, bnd_e]
  obtain ⟨c', h2, e⟩ := lp (fun fu (s : A32) i => f_X9_clear_b10 fu s (nI i)) 7 (fun i s => TA s (fun u v => if u = v ∧ u < i then some 0 else none)) (fun s => some s) (by
      intro fu i s hi hs
      refine ⟨upd s (i * 7 + i) (hI (some 0)), hs.put hi hi (if_pos ⟨rfl, by omega⟩) (fun x y hx hy q => ?_), ?_⟩
      · by_cases q2 : x = y ∧ x < i
        · rw [if_pos q2, if_pos ⟨q2.1, by omega⟩]
        · rw [if_neg q2, if_neg (fun q3 => by omega)]
      · simp (disch := omega) only [f_X9_clear_b10, le7F, if_false, ix7, set_e, bnd_e, nam_e, nI_1]
        rfl) (by
      intro fu s _
      simp (disch := omega) only [f_X9_clear_b10, le7T, if_true]) (i := 0) (k := 7) (fu := FU) (s := c1) rfl (FU_lt (by decide)) (fun x y hx hy => by
        try dsimp only
        rw [if_neg (fun q => by omega)]
        exact h1 _ (by omega))
  refine ⟨c', e, fun x y hx hy => ?_⟩
  rw [h2 x y hx hy]
  try dsimp only
  by_cases q : x = y
  · rw [if_pos ⟨q, hx⟩, if_pos q]
  · rw [if_neg (fun q2 => q q2.1), if_neg q]
/-- an edge of the air -/
def Ed (G : Nat) (one two len : Nat → Nat) (fl : Nat → Option Nat) (w v l : Nat) : Prop := ∃ g, g < G ∧ fl g = some v ∧ (if one g = v then two g else one g) = w ∧ len g = l
/-- the smoke's table as the class holds it -/
def SO (c : A32) (G : Nat) (one two len : Nat → Nat) (fl : Nat → Option Nat) : Prop := ∃ F : Tab, (∀ u, u < 7 → Lst (Ed G one two len fl) u (F u)) ∧ TA c F
section SMK
variable {cg cdoors cshafts : Int32} {cone ctwo clen cdr : A32} {G : Nat} {one two len dr : Nat → Nat} {dor : Nat → Bool} {fl : Nat → Option Nat}
theorem ed_ok (hw : WF G one two len dr) (hfl : ∀ g x, g < G → fl g = some x → one g = x ∨ two g = x) : ∀ u v l, Ed G one two len fl u v l → u < 7 ∧ v < 7 ∧ 1 ≤ l ∧ l ≤ 9 ∧ u ≠ v := by
  rintro u v l ⟨g, a1, a2, a3, a4⟩
  obtain ⟨w1, w2, w3, w4, w5⟩ := hw.2.1 g a1
  rcases hfl g v a1 a2 with q | q
  · rw [if_pos q] at a3
    omega
  · rw [if_neg (by omega)] at a3
    omega
theorem oth_e (hM : MA cg cdoors cshafts cone ctwo clen cdr G one two len dor dr) (hw : WF G one two len dr) {g k : Nat} (hg : g < G) (hk : k < 7) : f_X5_otherEnd cone ctwo (nI g) (nI k) = some (nI (if one g = k then two g else one g)) := by
  obtain ⟨m1, m2, m3, m4⟩ := hM.2.1 g hg
  obtain ⟨w1, w2, w3, -, -⟩ := hw.2.1 g hg
  have hG := hw.1
  unfold f_X5_otherEnd
  rw [get_e cone (by omega) (by decide), get_e ctwo (by omega) (by decide), bnd_e, bnd_e, bnd_e, m1, m2, iteE (by omega) (by omega)]
  split <;> rfl
theorem carry_e (hM : MA cg cdoors cshafts cone ctwo clen cdr G one two len dor dr) (hw : WF G one two len dr) (hfl : ∀ g x, g < G → fl g = some x → one g = x ∨ two g = x) {ci : A32} (hci : ∀ g, g < G → ci g = hI (fl g)) (c0 : A32) :
    ∃ c, f_X0_carrySmoke ci cg cone ctwo clen c0 = some c ∧ SO c G one two len fl := by
  have hG := hw.1
  have e0 := hM.1
  obtain ⟨c1, e1, h1⟩ := clear_e c0
  unfold f_X0_carrySmoke
  rw [e1, bnd_e]
  have init : ∃ T : Tab, TA c1 T ∧ (∀ u, u < 7 → T u u = some 0) ∧ (∀ u v l, u < 7 → v < 7 → u ≠ v → T u v = some l → ∃ g, g < 0 ∧ fl g = some v ∧ (if one g = v then two g else one g) = u ∧ len g = l) ∧ (∀ g v, g < 0 → fl g = some v → ∃ c, T (if one g = v then two g else one g) v = some c ∧ c ≤ len g) ∧ ∀ x y z, T x y = some z → z ≤ 9 := by
    refine ⟨fun u v => if u = v then some 0 else none, h1, ?_, ?_, ?_, ?_⟩
    · intro u _
      simp
    · intro u v l _ _ hne hT
      simp [hne] at hT
    · intro g v hg _
      exact absurd hg (Nat.not_lt_zero g)
    · intro x y z hz
      by_cases q : x = y
      · simp [q] at hz
        omega
      · simp [q] at hz
  obtain ⟨c2, ⟨T, t1, t2, t3, t4, t5⟩, e⟩ := lp (fun fu (s : A32) i => f_X0_carrySmoke_b6 ci cg cone ctwo clen fu s (nI i)) G
    (fun i s => ∃ T : Tab, TA s T ∧ (∀ u, u < 7 → T u u = some 0) ∧ (∀ u v l, u < 7 → v < 7 → u ≠ v → T u v = some l → ∃ g, g < i ∧ fl g = some v ∧ (if one g = v then two g else one g) = u ∧ len g = l) ∧ (∀ g v, g < i → fl g = some v → ∃ c, T (if one g = v then two g else one g) v = some c ∧ c ≤ len g) ∧ ∀ x y z, T x y = some z → z ≤ 9)
    (fun s => f_X9_joinWays s) (by
      rintro fu i s hi ⟨T, t1, t2, t3, t4, t5⟩
      obtain ⟨m1, m2, m3, m4⟩ := hM.2.1 i hi
      obtain ⟨w1, w2, w3, w4, w5⟩ := hw.2.1 i hi
      have ec := hci i hi
      cases hf : fl i with
      | none =>
        rw [hf] at ec
        refine ⟨s, ⟨T, t1, t2, fun u v l hu hv hne hT => ?_, fun g v hg hv => ?_, t5⟩, ?_⟩
        · obtain ⟨g, a1, a2⟩ := t3 u v l hu hv hne hT
          exact ⟨g, by omega, a2⟩
        · rcases Nat.lt_or_ge g i with q | q
          · exact t4 g v q hv
          · have : g = i := by omega
            subst this
            rw [hf] at hv
            cases hv
        · simp (disch := omega) only [f_X0_carrySmoke_b6, f_X0_carrySmoke_b51, e0, leF, if_false, get_e, ec, bnd_e, hI, if_true, nam_e, nI_1]
      | some v =>
        rw [hf] at ec
        have hv := hfl i v hi hf
        have hv7 : v < 7 := by rcases hv with rfl | rfl <;> assumption
        have hu7 : (if one i = v then two i else one i) < 7 := by split <;> assumption
        have hne : (if one i = v then two i else one i) ≠ v := by
          by_cases q : one i = v
          · rw [if_pos q]; omega
          · rw [if_neg q]; exact q
        have hoth := oth_e hM hw hi hv7
        generalize hu : (if one i = v then two i else one i) = u at *
        have hmn : ∀ z, mnO (T u v) (some (len i)) = some z → T u v = some z ∨ z = len i := fun z hz => (mnO_c hz).imp id (fun q => by cases q; rfl)
        obtain ⟨c', l1, l2⟩ := link_e (T' := fun x y => if x = u ∧ y = v then mnO (T x y) (some (len i)) else T x y) (l := len i) t1 hu7 hv7 (fun x q => by have := t5 _ _ _ q; omega) (by omega) (if_pos ⟨rfl, rfl⟩) (fun x y hx hy q => if_neg q)
        refine ⟨c', ⟨_, l2, fun x hx => ?_, fun x y l hx hy hxy hT => ?_, fun g y hg hy => ?_, fun x y z hz => ?_⟩, ?_⟩
        · rw [if_neg (fun q => hne (q.1.symm.trans q.2))]
          exact t2 x hx
        · by_cases q : x = u ∧ y = v
          · obtain ⟨rfl, rfl⟩ := q
            rw [if_pos ⟨rfl, rfl⟩] at hT
            rcases hmn l hT with r | r
            · obtain ⟨g, a1, a2⟩ := t3 _ _ l hx hy hxy r
              exact ⟨g, by omega, a2⟩
            · exact ⟨i, by omega, hf, hu, r.symm⟩
          · rw [if_neg q] at hT
            obtain ⟨g, a1, a2⟩ := t3 _ _ l hx hy hxy hT
            exact ⟨g, by omega, a2⟩
        · rcases Nat.lt_or_ge g i with q | q
          · obtain ⟨c, b1, b2⟩ := t4 g y q hy
            by_cases r : (if one g = y then two g else one g) = u ∧ y = v
            · rw [if_pos r]
              obtain ⟨c'', b3, b4⟩ := mnO_l (y := some (len i)) b1
              exact ⟨c'', b3, by omega⟩
            · rw [if_neg r]
              exact ⟨c, b1, b2⟩
          · have : g = i := by omega
            subst this
            rw [hf] at hy
            cases hy
            rw [hu, if_pos ⟨rfl, rfl⟩]
            exact mnO_r rfl
        · by_cases q : x = u ∧ y = v
          · obtain ⟨rfl, rfl⟩ := q
            rw [if_pos ⟨rfl, rfl⟩] at hz
            rcases hmn z hz with r | r
            · exact t5 _ _ _ r
            · omega
          · rw [if_neg q] at hz
            exact t5 _ _ _ hz
        · have hn1 : (nI v = (-1 : Int32)) = False := nI_nm1 (by omega)
          simp (disch := omega) only [f_X0_carrySmoke_b6, f_X0_carrySmoke_b51, e0, leF, if_false, get_e, ec, bnd_e, hI, hn1, hoth, m3, l1, nam_e, nI_1]) (by
      intro fu s _
      simp (disch := omega) only [f_X0_carrySmoke_b6, e0, leT, if_true]
      cases f_X9_joinWays s <;> rfl) (i := 0) (k := G) (fu := FU) (s := c1) (by omega) (FU_lt (by omega))
    init
  rw [show f_X0_carrySmoke_b6 ci cg cone ctwo clen FU c1 0 = f_X0_carrySmoke_b6 ci cg cone ctwo clen FU c1 (nI 0) from rfl, e]
  obtain ⟨c3, e3, h3⟩ := join_e t1 t2 t5
  refine ⟨c3, e3, fw T 7, fun u hu => ?_, h3⟩
  have hed := ed_ok hw hfl
  refine fw_lst (Ed := Ed G one two len fl) t2 t3 ?_ (fun u v l q => ⟨(hed u v l q).1, (hed u v l q).2.1⟩) hu
  rintro a b l ⟨g, a1, a2, a3, a4⟩
  obtain ⟨c, b1, b2⟩ := t4 g b a1 a2
  rw [a3] at b1
  exact ⟨c, b1, by omega⟩
end SMK
