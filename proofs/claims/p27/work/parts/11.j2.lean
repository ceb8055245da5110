/-! a turn of the law: men who walk, minutes, walks by a seed -/
section TURN2
variable {n : Nat} {xs t : A32} {g1 g2 g3 : Int32} {g4 : A32} {g5 g6 g7 g8 : Int32} {cg cdoors cshafts : Int32} {cone ctwo clen cdr : A32} {cbr : Int32} {ch ci cn csm : A32} {csize : Int32} {ckinds : A32} {copen cmoon cout cgone : Int32} {cgas cplace d p : A32} {x1 x2 x3 x4 : Int32} {x5 x6 : A32} {x7 : Int32} {G : Nat} {one two len : Nat → Nat} {dor : Nat → Bool} {dr : Nat → Nat} {opn : Nat → Bool} {moon : Bool} {gas kind place : Nat → Nat} {outx : Int32} {M T T0 : Nat}
theorem CM.move {m x : Nat} (hC : CM csize ckinds cplace cgas cout cgone gas kind place outx M T) : CM csize ckinds (upd cplace m (nI x)) cgas cout cgone gas kind (fun j => if j = m then x else place j) outx M T := by
  obtain ⟨c1, c2, c3, c4, c5⟩ := hC
  refine ⟨c1, fun j hj => ⟨(c2 j hj).1, ?_⟩, c3, c4, c5⟩
  show upd cplace m (nI x) j = nI (if j = m then x else place j)
  rw [upd_e]
  by_cases q : j = m
  · rw [if_pos q, if_pos q]
  · rw [if_neg q, if_neg q]; exact (c2 j hj).2
theorem WM.move {m x : Nat} (hW : WM gas kind place outx M T) (hx : x < 7) : WM gas kind (fun j => if j = m then x else place j) outx M T := by
  obtain ⟨w1, w2, w3, w4, w5⟩ := hW
  refine ⟨w1, w2, fun j hj => ⟨(w3 j hj).1, ?_⟩, w4, w5⟩
  try dsimp only
  split
  · exact hx
  · exact (w3 j hj).2
theorem go_walk (hS : ST cg cdoors cshafts cone ctwo clen cdr cbr ch ci csm csize ckinds copen cmoon cout cgone cgas cplace d p G one two len dor dr opn moon gas kind place outx M T) (K : KT) (v6 : Int32) {g m : Nat} (hg : g < G) (hm : m < M) : GO K cg cdoors cshafts cone ctwo clen cdr csize ckinds G one two len dor dr kind M T v6 (f_L_law_b480 K n xs g1 g2 g3 g4 g5 g6 g7 g8 cg cdoors cshafts cone ctwo clen cdr cbr ch ci cn csm csize ckinds copen cmoon cout cgone cgas cplace x1 x2 x3 x4 x5 x6 x7 d p t v6 (nI g) (nI m)) := by
  have hS' := hS
  obtain ⟨s1, s2, s3, s4, s5, s6, s7, s8, s9, s10⟩ := hS
  have hG := s2.1
  have hM6 := s10.1
  obtain ⟨e1, e2, e3, e4, e5⟩ := s8.2.2.1 g hg
  obtain ⟨w1, w2, w3, -, -⟩ := s2.2.1 g hg
  obtain ⟨p1, p2, p3, p4, p5⟩ := s9
  have k2 := (s10.2.2.1 m hm).2
  have k1 := (s10.2.2.1 m hm).1
  have c13 := (p2 m hm).2
  have c7 := (p2 m hm).1
  have i1 : inB (nI (1 + g)) 59 := (inB_e (by omega)).mpr (by omega)
  have i11 : inB (nI (11 + g)) 59 := (inB_e (by omega)).mpr (by omega)
  have i41 : inB (nI (41 + g)) 59 := (inB_e (by omega)).mpr (by omega)
  have j7 : inB (nI (7 + m)) 22 := (inB_e (by omega)).mpr (by omega)
  have j13 : inB (nI (13 + m)) 22 := (inB_e (by omega)).mpr (by omega)
  have d1 : d (nI (1 + g)).toNatClampNeg = nI (one g) := by rw [cl_e (by omega)]; exact e1
  have d11 : d (nI (11 + g)).toNatClampNeg = nI (two g) := by rw [cl_e (by omega)]; exact e2
  have d41 : d (nI (41 + g)).toNatClampNeg = b2i (opn g) := by rw [cl_e (by omega)]; exact e5
  have q7 : p (nI (7 + m)).toNatClampNeg = nI (kind m) := by rw [cl_e (by omega)]; exact c7
  have q13 : p (nI (13 + m)).toNatClampNeg = nI (place m) := by rw [cl_e (by omega)]; exact c13
  have hwk := walk_e s1 s2 s3 s7 s10 hm hg
  have hu7 : (if one g = place m then two g else one g) < 7 := by split <;> assumption
  -- no way
  have no : ¬ ((one g = place m ∨ two g = place m) ∧ bt outx m = false ∧ (opn g = true ∨ kind m = 3)) → GO K cg cdoors cshafts cone ctwo clen cdr csize ckinds G one two len dor dr kind M T v6 (f_L_law_b563 K n xs g1 g2 g3 g4 g5 g6 g7 g8 cg cdoors cshafts cone ctwo clen cdr cbr ch ci cn csm csize ckinds copen cmoon cout cgone cgas cplace x1 x2 x3 x4 x5 x6 x7 d p t v6 (nI g) (nI m)) := by
    intro hn
    unfold f_L_law_b563 f_L_law_b564
    rw [if_pos rfl]
    unfold f_L_law_b591
    rw [hwk, if_neg hn, bnd_e, if_pos rfl]
    unfold f_L_law_b616
    rw [if_pos rfl]
    exact go758 hS' (by omega) K v6
  have yes : (one g = place m ∨ two g = place m) ∧ bt outx m = false ∧ (opn g = true ∨ kind m = 3) → GO K cg cdoors cshafts cone ctwo clen cdr csize ckinds G one two len dor dr kind M T v6 (f_L_law_b559 K n xs g1 g2 g3 g4 g5 g6 g7 g8 cg cdoors cshafts cone ctwo clen cdr cbr ch ci cn csm csize ckinds copen cmoon cout cgone cgas cplace x1 x2 x3 x4 x5 x6 x7 d p t v6 (nI g) (nI m)) := by
    intro hy
    unfold f_L_law_b559 f_L_law_b564
    rw [if_neg (by decide), ad13, if_pos j13, q13, L_other_e s8 s2 hg k2, bnd_e, if_pos j13, cl_e (show 13 + m < 2 ^ 31 by omega)]
    unfold f_L_law_b591
    rw [hwk, if_pos hy, bnd_e, if_neg (by decide), ad13, if_pos j13, cl_e (show 13 + m < 2 ^ 31 by omega), upd_s]
    unfold f_L_law_b616
    rw [if_pos rfl]
    exact go758 (place := fun j => if j = m then (if one g = place m then two g else one g) else place j) ⟨s1, s2, s3, s4, s5, s6, s7.move, s8, PA.move ⟨p1, p2, p3, p4, p5⟩ hM6 hm, s10.move hu7⟩ (by omega) K v6
  -- at an end of it
  have at1 : (one g = place m ∨ two g = place m) → GO K cg cdoors cshafts cone ctwo clen cdr csize ckinds G one two len dor dr kind M T v6 (f_L_law_b513 K n xs g1 g2 g3 g4 g5 g6 g7 g8 cg cdoors cshafts cone ctwo clen cdr cbr ch ci cn csm csize ckinds copen cmoon cout cgone cgas cplace x1 x2 x3 x4 x5 x6 x7 d p t v6 (nI g) (nI m)) := by
    intro hat
    unfold f_L_law_b513 f_L_law_b518
    rw [if_neg (by decide), if_pos (show inB 19 22 by decide), cl19, p3, bit_e (by omega)]
    cases hb : bt outx m
    · rw [if_pos (show b2i false = 0 from rfl), ad41, if_pos i41, d41]
      cases ho : opn g
      · rw [if_neg (show ¬ b2i false = 1 by decide), ad7, if_pos j7, q7]
        by_cases q : kind m = 3
        · rw [if_pos (show nI (kind m) = 3 by rw [q]; rfl)]
          exact yes ⟨hat, hb, Or.inr q⟩
        · rw [if_neg (show ¬ nI (kind m) = 3 from fun h => q ((nI_eq (b := 3) (by omega) (by decide)).mp h))]
          exact no (fun h => h.2.2.elim (fun r => by rw [ho] at r; cases r) q)
      · rw [if_pos (show b2i true = 1 from rfl)]
        exact yes ⟨hat, hb, Or.inl ho⟩
    · rw [if_neg (show ¬ b2i true = 0 by decide)]
      exact no (fun h => by rw [hb] at h; cases h.2.1)
  unfold f_L_law_b480
  rw [ad1, if_pos i1, ad13, if_pos j13, d1, q13]
  by_cases q1 : one g = place m
  · rw [if_pos (show nI (one g) = nI (place m) by rw [q1])]
    exact at1 (Or.inl q1)
  · rw [if_neg (show ¬ nI (one g) = nI (place m) from fun h => q1 ((nI_eq (by omega) (by omega)).mp h)), ad11, if_pos i11, if_pos j13, d11]
    by_cases q2 : two g = place m
    · rw [if_pos (show nI (two g) = nI (place m) by rw [q2])]
      exact at1 (Or.inr q2)
    · rw [if_neg (show ¬ nI (two g) = nI (place m) from fun h => q2 ((nI_eq (by omega) (by omega)).mp h))]
      unfold f_L_law_b518
      rw [if_pos rfl]
      exact no (fun h => h.1.elim q1 q2)
theorem go_find (hS : ST cg cdoors cshafts cone ctwo clen cdr cbr ch ci csm csize ckinds copen cmoon cout cgone cgas cplace d p G one two len dor dr opn moon gas kind place outx M T) (K : KT) (v6 v7 : Int32) {g m : Nat} (hg : g < G) (hm : m < M) : GO K cg cdoors cshafts cone ctwo clen cdr csize ckinds G one two len dor dr kind M T v6 (f_L_law_b411 K n xs g1 g2 g3 g4 g5 g6 g7 g8 cg cdoors cshafts cone ctwo clen cdr cbr ch ci cn csm csize ckinds copen cmoon cout cgone cgas cplace x1 x2 x3 x4 x5 x6 x7 d p t v6 v7 (nI m) FU (nI g) 0) := by
  have hS' := hS
  obtain ⟨s1, s2, s3, s4, s5, s6, s7, s8, s9, s10⟩ := hS
  have hG := s2.1
  have hM6 := s10.1
  obtain ⟨p1, p2, p3, p4, p5⟩ := s9
  have h0 := s8.1
  refine lpP (fun fu (s : Nat) i => f_L_law_b411 K n xs g1 g2 g3 g4 g5 g6 g7 g8 cg cdoors cshafts cone ctwo clen cdr cbr ch ci cn csm csize ckinds copen cmoon cout cgone cgas cplace x1 x2 x3 x4 x5 x6 x7 d p t v6 v7 (nI m) fu (nI s) (nI i)) G (fun i s => s < G) (fun r => GO K cg cdoors cshafts cone ctwo clen cdr csize ckinds G one two len dor dr kind M T v6 r) ?_ ?_ G 0 g FU (by omega) (FU_lt (by omega)) hg
  · intro fu i s hi hs
    obtain ⟨e1, e2, e3, e4, e5⟩ := s8.2.2.1 s hs
    obtain ⟨z, z1, z2⟩ := at_e (v7 >>> (10 &&& 31)) (m := 4) (by decide) (by decide)
    have z2' : f_L_at (v7 >>> (10 &&& 31)) 4 = some (nI z) := z2
    have i1 : inB (nI (1 + s)) 59 := (inB_e (by omega)).mpr (by omega)
    have i11 : inB (nI (11 + s)) 59 := (inB_e (by omega)).mpr (by omega)
    have j13 : inB (nI (13 + m)) 22 := (inB_e (by omega)).mpr (by omega)
    have gw := go_walk (n := n) (xs := xs) (t := t) (g1 := g1) (g2 := g2) (g3 := g3) (g4 := g4) (g5 := g5) (g6 := g6) (g7 := g7) (g8 := g8) (cn := cn) (x1 := x1) (x2 := x2) (x3 := x3) (x4 := x4) (x5 := x5) (x6 := x6) (x7 := x7) hS' K v6 hs hm
    try dsimp only
    rw [f_L_law_b411, if_pos (show inB 0 59 by decide), if_neg (show ¬ d (Int32.toNatClampNeg 0) ≤ nI i by rw [cl0, h0]; exact nI_ge hi (by omega)), z2', bnd_e]
    by_cases q0 : z = 0
    · refine Or.inr ?_
      rw [if_pos (show nI z ≤ 0 by rw [q0]; decide)]
      exact gw
    · rw [if_neg (nI_nle (n := z) (by omega) (by omega)), ad1, if_pos i1, ad13, if_pos j13]
      by_cases q1 : d (nI (1 + s)).toNatClampNeg = p (nI (13 + m)).toNatClampNeg
      · refine Or.inr ?_
        rw [if_pos q1]
        exact gw
      · rw [if_neg q1, ad11, if_pos i11, if_pos j13]
        by_cases q2 : d (nI (11 + s)).toNatClampNeg = p (nI (13 + m)).toNatClampNeg
        · refine Or.inr ?_
          rw [if_pos q2]
          exact gw
        · refine Or.inl ⟨(s + 1) % G, Nat.mod_lt _ (by omega), ?_⟩
          rw [if_neg q2, if_pos (show inB 0 59 by decide), cl0, h0, if_neg (nI_ne0 (n := G) (by omega) (by omega)), nI_1, pk_rem (by omega) (by omega) (by omega), nam_e, nam_e, nI_1]
  · intro fu s hs
    have gw := go_walk (n := n) (xs := xs) (t := t) (g1 := g1) (g2 := g2) (g3 := g3) (g4 := g4) (g5 := g5) (g6 := g6) (g7 := g7) (g8 := g8) (cn := cn) (x1 := x1) (x2 := x2) (x3 := x3) (x4 := x4) (x5 := x5) (x6 := x6) (x7 := x7) hS' K v6 hs hm
    try dsimp only
    rw [f_L_law_b411, if_pos (show inB 0 59 by decide), if_pos (show d (Int32.toNatClampNeg 0) ≤ nI G by rw [cl0, h0]; exact nI_le (Nat.le_refl G) (by omega))]
    exact gw
theorem go_min (hS : ST cg cdoors cshafts cone ctwo clen cdr cbr ch ci csm csize ckinds copen cmoon cout cgone cgas cplace d p G one two len dor dr opn moon gas kind place outx M T) (hT : T < 90000) (K : KT) (v6 : Int32) {many : Nat} (m1 : 1 ≤ many) (m2 : many ≤ 60) {a : A32} (ha : LA a G (flw G one two opn moon dr)) : GO K cg cdoors cshafts cone ctwo clen cdr csize ckinds G one two len dor dr kind M T v6 (f_L_law_b673 K n xs g1 g2 g3 g4 g5 g6 g7 g8 cg cdoors cshafts cone ctwo clen cdr cbr ch ci cn csm csize ckinds copen cmoon cout cgone cgas cplace x1 x2 x3 x4 x5 x6 x7 d t a v6 (nI many) FU p 0 0) := by
  have hS' := hS
  obtain ⟨s1, s2, s3, s4, s5, s6, s7, s8, s9, s10⟩ := hS
  have hG := s2.1
  have hfl : ∀ g x, g < G → flw G one two opn moon dr g = some x → x < 7 := fun g x hg h => flw_lt s2 hg h
  have hbr : ∀ k, k < 7 → bt cbr k = dcd (brt G one two (flw G one two opn moon dr) k) := fun k hk => bool_ext (by rw [s5.2.2 k (by omega), dcd_t])
  obtain ⟨b, hbb⟩ : ∃ b : Nat → Bool, b = fun k => dcd (brt G one two (flw G one two opn moon dr) k) := ⟨_, rfl⟩
  have hW' := s10
  obtain ⟨hM6, hg9, hkp, hob, hT'⟩ := s10
  obtain ⟨out', cgas', ec, hc1, hc2⟩ := minutes_e (b := b) s2 (fun k hk => by rw [hbb]; exact hbr k hk) s7 hW' m1 m2 (by omega)
  obtain ⟨⟨p', outs⟩, ⟨o, hP, ho, hct⟩, e⟩ := lp (fun fu (s : A32 × Nat) i => f_L_law_b673 K n xs g1 g2 g3 g4 g5 g6 g7 g8 cg cdoors cshafts cone ctwo clen cdr cbr ch ci cn csm csize ckinds copen cmoon cout cgone cgas cplace x1 x2 x3 x4 x5 x6 x7 d t a v6 (nI many) fu s.1 (nI s.2) (nI i)) many
    (fun i s => ∃ o, PA s.1 (gN b gas i) kind place o M T ∧ (∀ j, j < 32 → bt o j = oN b gas kind place M (bt outx) i j) ∧ fb_ct (bt outx) 6 + s.2 = fb_ct (bt o) 6)
    (fun s => f_L_law_b673 K n xs g1 g2 g3 g4 g5 g6 g7 g8 cg cdoors cshafts cone ctwo clen cdr cbr ch ci cn csm csize ckinds copen cmoon cout cgone cgas cplace x1 x2 x3 x4 x5 x6 x7 d t a v6 (nI many) 1 s.1 (nI s.2) (nI many)) (by
      rintro fu i ⟨p', outs⟩ hi ⟨o, hP, ho, hct⟩
      dsimp only at hP hct
      obtain ⟨k, p'', o', em, hP', hO, hct'⟩ := L_minute_e s8 s2 hfl ha hP ⟨hM6, gN_le hg9 i, hkp, fun j hj hj2 => by rw [ho j hj2, oN_hi hj, hob j hj hj2], hT'⟩
      rw [← hbb] at hP' hO
      refine ⟨(p'', outs + k), ⟨o', hP', fun j hj => ?_, by dsimp only; omega⟩, ?_⟩
      · rw [hO j hj, ho j hj]
        rfl
      · dsimp only
        rw [f_L_law_b673, if_neg (nI_ge hi (by omega)), em, bnd_e, nam_e, nam_e, nI_add, nI_1]) (by
      rintro fu ⟨p', outs⟩ -
      try dsimp only
      rw [f_L_law_b673, f_L_law_b673, if_pos (nI_le (Nat.le_refl many) (by omega)), if_pos (nI_le (Nat.le_refl many) (by omega))]) (i := 0) (k := many) (fu := FU) (s := (p, 0)) (by omega) (FU_lt (by omega)) ⟨outx, s9, fun j _ => rfl, rfl⟩
  dsimp only at hP hct
  have hoo : o = out' := b_ext (fun j hj => by rw [ho j hj, hc2 j hj])
  subst hoo
  have hle : fb_ct (bt outx) 6 ≤ fb_ct (bt o) 6 := by omega
  have houts : nI (fb_ct (bt o) 6) - nI (fb_ct (bt outx) 6) = nI outs := by
    rw [pk_sub hle]
    congr 1
    omega
  rw [show f_L_law_b673 K n xs g1 g2 g3 g4 g5 g6 g7 g8 cg cdoors cshafts cone ctwo clen cdr cbr ch ci cn csm csize ckinds copen cmoon cout cgone cgas cplace x1 x2 x3 x4 x5 x6 x7 d t a v6 (nI many) FU p 0 0 = f_L_law_b673 K n xs g1 g2 g3 g4 g5 g6 g7 g8 cg cdoors cshafts cone ctwo clen cdr cbr ch ci cn csm csize ckinds copen cmoon cout cgone cgas cplace x1 x2 x3 x4 x5 x6 x7 d t a v6 (nI many) 1 p' (nI outs) (nI many) from e]
  rw [houts] at ec
  obtain ⟨p1, p2, p3, p4, p5⟩ := hP
  have s71 := s1.1
  rw [f_L_law_b673, if_pos (nI_le (Nat.le_refl many) (by omega)), if_pos (show inB 21 22 by decide), if_pos (show inB 21 22 by decide), s71, ec, bnd_e, if_pos rfl, cl21, p5, nI_add, ← s71]
  have hob' : ∀ i, M ≤ i → i < 32 → bt o i = false := fun i h1 h2 => by rw [ho i h2, oN_hi h1, hob i h1 h2]
  refine go758 (gas := gN b gas many) (outx := o) (T := T + many) ⟨s1, s2, s3, s4, s5, s6, ⟨s7.1, s7.2.1, hc1, rfl, rfl⟩, s8, ⟨fun k hk => ?_, fun m hm => ⟨?_, ?_⟩, ?_, ?_, upd_s _ _ _⟩, ⟨hM6, gN_le hg9 many, hkp, hob', by omega⟩⟩ (by omega) K v6
  · rw [upd_n _ _ (by omega)]; exact p1 k hk
  · rw [upd_n _ _ (by omega)]; exact (p2 m hm).1
  · rw [upd_n _ _ (by omega)]; exact (p2 m hm).2
  · rw [upd_n _ _ (by omega)]; exact p3
  · rw [upd_n _ _ (by omega)]; exact p4
theorem go_rest (hS : ST cg cdoors cshafts cone ctwo clen cdr cbr ch ci csm csize ckinds copen cmoon cout cgone cgas cplace d p G one two len dor dr opn moon gas kind place outx M T) (hT : T < 90000) (hn : n ≤ 260) (K : KT) {v6 : Nat} (h6 : v6 < 12) (v7 : Int32) {v8 : Nat} (h8 : v8 < 8) : GO K cg cdoors cshafts cone ctwo clen cdr csize ckinds G one two len dor dr kind M T (nI v6) (f_L_law_b624 K n xs g1 g2 g3 g4 g5 g6 g7 g8 cg cdoors cshafts cone ctwo clen cdr cbr ch ci cn csm csize ckinds copen cmoon cout cgone cgas cplace x1 x2 x3 x4 x5 x6 x7 d p t (nI v6) v7 (nI v8)) := by
  have hS' := hS
  obtain ⟨s1, s2, s3, s4, s5, s6, s7, s8, s9, s10⟩ := hS
  have hG := s2.1
  unfold f_L_law_b624
  by_cases q : 7 ≤ v8
  · rw [if_pos (show (7 : Int32) ≤ nI v8 from nI_le (a := 7) q (by omega))]
    obtain ⟨z, z1, z2⟩ := at_e (v7 >>> (10 &&& 31)) (m := 60) (by decide) (by decide)
    have z2' : f_L_at (v7 >>> (10 &&& 31)) 60 = some (nI z) := z2
    obtain ⟨y, hy⟩ := cell_e n (by omega) xs (21 + v6) (by omega)
    obtain ⟨sd, sd1, sd2⟩ := bt_lt (x := y &&& 2147483647) (n := 31) (Nat.le_refl _) (fun i h1 h2 => by
      rw [b_and]
      have : i = 31 := by omega
      subst this
      rw [show bt 2147483647 31 = false by decide, Bool.and_false])
    have hbr : ∀ k, k < 7 → bt cbr k = dcd (brt G one two (flw G one two opn moon dr) k) := fun k hk => bool_ext (by rw [s5.2.2 k (by omega), dcd_t])
    subst s4
    obtain ⟨w, hw⟩ := L_walks_e s1 s8 s2 s3 hbr s7 s9 s10 (times := 1 + z) (seed := sd) (by omega) (by omega) (by omega) (by omega) x1 x2 x3 x4 x5 x6 x7
    rw [z2', bnd_e, ad21, hy, bnd_e, ad1, sd2, hw, bnd_e, if_neg (show ¬ (1 : Int32) = 0 by decide)]
    exact go758 hS' (by omega) K (nI v6)
  · rw [if_neg (show ¬ (7 : Int32) ≤ nI v8 from nI_ge (b := 7) (by omega) (by decide))]
    obtain ⟨a, ea, ha⟩ := L_air_e s8 s2
    have ht : ∀ t2 : Nat, 0 < t2 → t2 ≤ 60 → GO K cg cdoors cshafts cone ctwo clen cdr csize ckinds G one two len dor dr kind M T (nI v6) (f_L_law_b655 K n xs g1 g2 g3 g4 g5 g6 g7 g8 cg cdoors cshafts cone ctwo clen cdr cbr ch ci cn csm csize ckinds copen cmoon cout cgone cgas cplace x1 x2 x3 x4 x5 x6 x7 d p t 1 (v7 >>> (10 &&& 31)) (nI t2) (nI v6)) := by
      intro t2 h1 h2
      obtain ⟨z, z1, z2⟩ := at_e (v7 >>> (10 &&& 31)) (m := t2) h1 (by omega)
      unfold f_L_law_b655
      rw [z2, bnd_e, nam_e, ad1, ea, bnd_e]
      exact go_min hS' hT K (nI v6) (by omega) (by omega) ha
    obtain ⟨z, z1, z2⟩ := at_e (v7 >>> (16 &&& 31)) (m := 5) (by decide) (by decide)
    have z2' : f_L_at (v7 >>> (16 &&& 31)) 5 = some (nI z) := z2
    rw [z2', bnd_e]
    by_cases r : nI z = 0
    · rw [if_pos r]
      exact ht 60 (by decide) (by decide)
    · rw [if_neg r]
      exact ht 3 (by decide) (by decide)
theorem go_turn (hS : ST cg cdoors cshafts cone ctwo clen cdr cbr ch ci csm csize ckinds copen cmoon cout cgone cgas cplace d p G one two len dor dr opn moon gas kind place outx M T) (hT : T < 90000) (hn : n ≤ 260) (K : KT) {v6 : Nat} (h6 : v6 < 12) (v7 : Int32) {v8 g m : Nat} (h8 : v8 < 8) (hg : g < G) (hm : 0 < M → m < M) : GO K cg cdoors cshafts cone ctwo clen cdr csize ckinds G one two len dor dr kind M T (nI v6) (f_L_law_b241 K n xs g1 g2 g3 g4 g5 g6 g7 g8 cg cdoors cshafts cone ctwo clen cdr cbr ch ci cn csm csize ckinds copen cmoon cout cgone cgas cplace x1 x2 x3 x4 x5 x6 x7 d p t (nI m) (nI v6) v7 (nI v8) (nI g)) := by
  have hS' := hS
  obtain ⟨s1, s2, s3, s4, s5, s6, s7, s8, s9, s10⟩ := hS
  have hG := s2.1
  unfold f_L_law_b241
  by_cases q2 : 2 ≤ v8
  · rw [if_pos (show (2 : Int32) ≤ nI v8 from nI_le (a := 2) q2 (by omega))]
    by_cases q3 : v8 = 2
    · rw [if_pos (show nI v8 = 2 by rw [q3]; rfl)]
      obtain ⟨z, z1, z2⟩ := at_e (v7 >>> (10 &&& 31)) (m := 3) (by decide) (by decide)
      have z2' : f_L_at (v7 >>> (10 &&& 31)) 3 = some (nI z) := z2
      rw [z2', bnd_e]
      by_cases r : nI z = 0
      · subst s4
        obtain ⟨cbr', ch', ci', cn', cs', et, hA', hS1⟩ := turn_e (moon := moon) s1 s2 s3 cbr ch ci cn csm
        have h51 : (1 : Int32) - d 51 = b2i (!moon) := by
          rw [s8.2.1]
          cases moon <;> rfl
        rw [if_pos r, if_pos (show inB 51 59 by decide), if_pos (show inB 51 59 by decide), et, bnd_e, if_pos (show inB 51 59 by decide), cl51, h51, upd_s, if_pos rfl]
        exact go_smoke ⟨s1, s2, s3, rfl, hA', hS1, s7, s8.turn hG.2, s9, s10⟩ (by omega) K (nI v6) v7
      · rw [if_neg r]
        exact go_smoke hS' (by omega) K (nI v6) v7
    · rw [if_neg (show ¬ nI v8 = 2 from fun h => q3 ((nI_eq (b := 2) (by omega) (by decide)).mp h))]
      by_cases q5 : 5 ≤ v8
      · rw [if_pos (show (5 : Int32) ≤ nI v8 from nI_le (a := 5) q5 (by omega))]
        exact go_rest hS' hT hn K h6 v7 h8
      · rw [if_neg (show ¬ (5 : Int32) ≤ nI v8 from nI_ge (b := 5) (by omega) (by decide)), if_pos (show inB 20 22 by decide), cl20, s9.2.2.2.1]
        by_cases qM : M = 0
        · rw [if_pos (show nI M ≤ 0 by rw [qM]; decide)]
          exact go_rest hS' hT hn K h6 v7 h8
        · have hM6 := s10.1
          rw [if_neg (nI_nle (n := M) (by omega) (by omega))]
          exact go_find hS' K (nI v6) v7 hg (hm (by omega))
  · rw [if_neg (show ¬ (2 : Int32) ≤ nI v8 from nI_ge (b := 2) (by omega) (by decide))]
    obtain ⟨z, z1, z2⟩ := at_e (v7 >>> (10 &&& 31)) (m := 2) (by decide) (by decide)
    have z2' : f_L_at (v7 >>> (10 &&& 31)) 2 = some (nI z) := z2
    rw [z2', bnd_e]
    by_cases r : nI z = 0
    · rw [if_pos r]
      exact go_door hS' K (nI v6) hg true
    · rw [if_neg r]
      exact go_door hS' K (nI v6) hg false
end TURN2
