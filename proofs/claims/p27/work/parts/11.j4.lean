/-! kinds told of each man; men; the mine; the law -/
theorem as105 {n : Nat} {xs t : A32} {g1 g2 g3 : Int32} {g4 : A32} {g5 g6 g7 g8 : Int32} {cg cdoors cshafts : Int32} {cone ctwo clen cdr : A32} {cbr : Int32} {ch ci cn csm : A32} {csize : Int32} {ckinds : A32} {copen cmoon cout cgone : Int32} {cgas cplace d p : A32} {x1 x2 x3 x4 : Int32} {x5 x6 : A32} {x7 : Int32} {gas kind place : Nat → Nat} {outx : Int32} {M T : Nat}
    (hC : CM csize ckinds cplace cgas cout cgone gas kind place outx M T) (hP : PA p gas kind place outx M T) (hW : WM gas kind place outx M T) (K : Int32 → Option Int32) {m : Nat} (hm : m < M) : f_L_law_b105 K n xs g1 g2 g3 g4 g5 g6 g7 g8 cg cdoors cshafts cone ctwo clen cdr cbr ch ci cn csm csize ckinds copen cmoon cout cgone cgas cplace x1 x2 x3 x4 x5 x6 x7 d p t (nI m) FU 0 = K (nI (m + 1)) := by
  have hM6 := hW.1
  have h5 := fun m hm => (hW.2.2.1 m hm).1
  have k5 := h5 m hm
  have hk7 := (hP.2.1 m hm).1
  obtain ⟨c1, c2, c3, c4, c5⟩ := hC
  subst c1
  have i7 : inB (nI (7 + m)) 22 := (inB_e (by omega)).mpr (by omega)
  have q7 : p (nI (7 + m)).toNatClampNeg = nI (kind m) := by rw [cl_e (by omega)]; exact hk7
  obtain ⟨s, -, e⟩ := lp (fun fu (_ : Unit) j => f_L_law_b105 K n xs g1 g2 g3 g4 g5 g6 g7 g8 cg cdoors cshafts cone ctwo clen cdr cbr ch ci cn csm (nI M) ckinds copen cmoon cout cgone cgas cplace x1 x2 x3 x4 x5 x6 x7 d p t (nI m) fu (nI j)) 5 (fun _ _ => True) (fun _ => K (nI (m + 1))) (by
      intro fu j s hj hs
      refine ⟨(), trivial, ?_⟩
      have ha := as_e hM6 (fun m hm => (c2 m hm).1) h5 hm hj
      have y3 : (j = 0 ∨ j = kind m ∨ (j = 1 ∧ kind m = 4)) → ∀ KK : Int32 → Option Int32, f_L_law_b153 K KK  n xs g1 g2 g3 g4 g5 g6 g7 g8 cg cdoors cshafts cone ctwo clen cdr cbr ch ci cn csm (nI M) ckinds copen cmoon cout cgone cgas cplace x1 x2 x3 x4 x5 x6 x7 d p t (if j = 0 ∨ j = kind m ∨ (j = 1 ∧ kind m = 4) then nI m else -1) (nI m) (nI j) = KK (nI (j + 1)) := by
        intro C KK
        unfold f_L_law_b153 f_L_law_b159
        rw [if_pos C, if_pos rfl, nam_e, nI_1]
      have y8 : ¬ (j = 0 ∨ j = kind m ∨ (j = 1 ∧ kind m = 4)) → ∀ KK : Int32 → Option Int32, f_L_law_b158 K KK  n xs g1 g2 g3 g4 g5 g6 g7 g8 cg cdoors cshafts cone ctwo clen cdr cbr ch ci cn csm (nI M) ckinds copen cmoon cout cgone cgas cplace x1 x2 x3 x4 x5 x6 x7 d p t (if j = 0 ∨ j = kind m ∨ (j = 1 ∧ kind m = 4) then nI m else -1) (nI m) (nI j) = KK (nI (j + 1)) := by
        intro C KK
        unfold f_L_law_b158 f_L_law_b159
        rw [if_neg C, if_pos rfl, nam_e, nI_1]
      try dsimp only
      rw [f_L_law_b105, if_neg (show ¬ (5 : Int32) ≤ nI j from nI_ge (b := 5) hj (by decide)), ha, bnd_e]
      by_cases q0 : j = 0
      · rw [if_pos (show nI j = 0 by rw [q0]; rfl)]
        exact y3 (Or.inl q0) _
      · rw [if_neg (nI_ne0 (n := j) (by omega) (by omega)), ad7, if_pos i7, q7]
        by_cases q1 : j = kind m
        · rw [if_pos (show nI j = nI (kind m) by rw [q1])]
          exact y3 (Or.inr (Or.inl q1)) _
        · rw [if_neg (show ¬ nI j = nI (kind m) from fun h => q1 ((nI_eq (by omega) (by omega)).mp h))]
          by_cases q2 : j = 1
          · rw [if_pos (show nI j = 1 by rw [q2]; rfl), if_pos i7]
            by_cases q3 : kind m = 4
            · rw [if_pos (show nI (kind m) = 4 by rw [q3]; rfl)]
              exact y3 (Or.inr (Or.inr ⟨q2, q3⟩)) _
            · rw [if_neg (show ¬ nI (kind m) = 4 from fun h => q3 ((nI_eq (b := 4) (by omega) (by decide)).mp h))]
              exact y8 (by omega) _
          · rw [if_neg (show ¬ nI j = 1 from fun h => q2 ((nI_eq (b := 1) (by omega) (by decide)).mp h))]
            exact y8 (by omega) _) (by
      intro fu s _
      try dsimp only
      rw [f_L_law_b105, if_pos (show (5 : Int32) ≤ nI 5 by decide), nam_e, nI_1]) (i := 0) (k := 5) (fu := FU) (s := ()) (by decide) (FU_lt (by decide)) trivial
  exact e
theorem as93 {n : Nat} (hn : n ≤ 260) {xs t : A32} {g1 g2 g3 : Int32} {g4 : A32} {g5 g6 g7 g8 : Int32} {cg cdoors cshafts : Int32} {cone ctwo clen cdr : A32} {cbr : Int32} {ch ci cn csm : A32} {csize : Int32} {ckinds : A32} {copen cmoon cout cgone : Int32} {cgas cplace d p : A32} {x1 x2 x3 x4 : Int32} {x5 x6 : A32} {x7 : Int32} {G : Nat} {one two len : Nat → Nat} {dor : Nat → Bool} {dr : Nat → Nat} {opn : Nat → Bool} {moon : Bool} {gas kind place : Nat → Nat} {outx : Int32} {M : Nat}
    (hS : ST cg cdoors cshafts cone ctwo clen cdr cbr ch ci csm csize ckinds copen cmoon cout cgone cgas cplace d p G one two len dor dr opn moon gas kind place outx M 0) : f_L_law_b93  n xs g1 g2 g3 g4 g5 g6 g7 g8 cg cdoors cshafts cone ctwo clen cdr cbr ch ci cn csm csize ckinds copen cmoon cout cgone cgas cplace x1 x2 x3 x4 x5 x6 x7 d p t FU 0 = some 1 := by
  have hS' := hS
  obtain ⟨s1, s2, s3, s4, s5, s6, s7, s8, s9, s10⟩ := hS
  have hM6 := s10.1
  have h20 := s9.2.2.2.1
  refine lpP (fun fu (_ : Unit) i => f_L_law_b93  n xs g1 g2 g3 g4 g5 g6 g7 g8 cg cdoors cshafts cone ctwo clen cdr cbr ch ci cn csm csize ckinds copen cmoon cout cgone cgas cplace x1 x2 x3 x4 x5 x6 x7 d p t fu (nI i)) M (fun _ _ => True) (fun r => r = some 1) ?_ ?_ M 0 () FU (by omega) (FU_lt (by omega)) trivial
  · intro fu i s hi _
    refine Or.inl ⟨(), trivial, ?_⟩
    try dsimp only
    rw [f_L_law_b93, if_pos (show inB 20 22 by decide), if_neg (show ¬ p (Int32.toNatClampNeg 20) ≤ nI i by rw [cl20, h20]; exact nI_ge hi (by omega)), as105 s7 s9 s10 _ hi]
  · intro fu s _
    try dsimp only
    rw [f_L_law_b93, if_pos (show inB 20 22 by decide), if_pos (show p (Int32.toNatClampNeg 20) ≤ nI M by rw [cl20, h20]; exact nI_le (Nat.le_refl M) (by omega))]
    exact go_loop hn 12 0 FU rfl (FU_lt (by decide)) cbr ch ci cn csm copen cmoon cout cgone cgas cplace x1 x2 x3 x4 x5 x6 x7 d p opn moon gas place outx 0 hS' (by omega)
/-- men -/
theorem men_e {n : Nat} (hn : n ≤ 260) {xs : A32} {G : Nat} {one two len dr : Nat → Nat} (hw : WF G one two len dr) (ck cp cgas : A32) (hg : ∀ k, k < 7 → cgas k = 0) : ∃ M kind place ck' cp' p, f_L_men 22 n xs (nI G) 0 ck cp (fun _ => 0) 7 6 = some (1, nI M, ck', cp', p) ∧ CM (nI M) ck' cp' cgas 0 0 (fun _ => 0) kind place 0 M 0 ∧ PA p (fun _ => 0) kind place 0 M 0 ∧ WM (fun _ => 0) kind place 0 M 0 := by
  obtain ⟨z, hz⟩ := cell_e n (by omega) xs 7 (by omega)
  obtain ⟨y, hy⟩ := cell_e n (by omega) xs 8 (by omega)
  have hz7 : f_L_cell n xs 7 = some z := hz
  have hz8 : f_L_cell n xs ((7 : Int32) + 1) = some y := by
    rw [show (7 : Int32) + 1 = nI 8 by decide]; exact hy
  obtain ⟨M, m1, m2⟩ := at_e z (m := 7) (by decide) (by decide)
  obtain ⟨⟨ck', cp', p'⟩, ⟨kind, place, h1, h2, h3, h4, h5⟩, e⟩ := lp (fun fu (s : A32 × A32 × A32) i => f_L_men_b22 22 n xs (nI G) 7 (nI M) fu (nI i) s.1 s.2.1 s.2.2 (nI i)) M
    (fun i s => ∃ kind place : Nat → Nat, (∀ m, m < i → s.1 m = nI (kind m) ∧ s.2.1 m = nI (place m) ∧ s.2.2 (7 + m) = nI (kind m) ∧ s.2.2 (13 + m) = nI (place m) ∧ kind m < 5 ∧ place m < 7) ∧ s.2.2 20 = nI i ∧ (∀ k, k < 7 → s.2.2 k = 0) ∧ s.2.2 19 = 0 ∧ s.2.2 21 = 0)
    (fun s => some (1, nI M, s.1, s.2.1, s.2.2)) (by
      rintro fu i ⟨ck', cp', q⟩ hi ⟨kind, place, h1, h2, h3, h4, h5⟩
      dsimp only at h1 h2 h3 h4 h5
      obtain ⟨kd, k1, k2⟩ := at_e (z >>> ((3 + (4 * nI i)) &&& 31)) (m := 5) (by decide) (by decide)
      obtain ⟨pl, l1, l2⟩ := at_e (y >>> ((4 * nI i) &&& 31)) (m := 7) (by decide) (by decide)
      have k2' : f_L_at (z >>> ((3 + (4 * nI i)) &&& 31)) 5 = some (nI kd) := k2
      have l2' : f_L_at (y >>> ((4 * nI i) &&& 31)) 7 = some (nI pl) := l2
      have i7 : inB (nI (7 + i)) 22 := (inB_e (by omega)).mpr (by omega)
      have i13 : inB (nI (13 + i)) 22 := (inB_e (by omega)).mpr (by omega)
      have c7 := cl_e (show 7 + i < 2 ^ 31 by omega)
      have c13 := cl_e (show 13 + i < 2 ^ 31 by omega)
      have e1 : (upd (upd q (7 + i) (nI kd)) (13 + i) (nI pl)) (7 + i) = nI kd := by rw [upd_n _ _ (by omega), upd_s]
      have e2 : (upd (upd q (7 + i) (nI kd)) (13 + i) (nI pl)) (13 + i) = nI pl := by rw [upd_s]
      have e3 : (upd (upd q (7 + i) (nI kd)) (13 + i) (nI pl)) 20 = nI i := by rw [upd_n _ _ (by omega), upd_n _ _ (by omega)]; exact h2
      refine ⟨(upd ck' i (nI kd), upd cp' i (nI pl), upd (upd (upd q (7 + i) (nI kd)) (13 + i) (nI pl)) 20 (nI (i + 1))), ⟨fun m => if m = i then kd else kind m, fun m => if m = i then pl else place m, ?_, ?_, ?_, ?_, ?_⟩, ?_⟩
      · intro m hm
        try dsimp only
        by_cases r : m = i
        · subst r
          rw [if_pos rfl, if_pos rfl, upd_s, upd_s, upd_n _ _ (by omega), upd_n _ _ (by omega), upd_s, upd_n _ _ (by omega), upd_s]
          exact ⟨rfl, rfl, rfl, rfl, k1, l1⟩
        · rw [if_neg r, if_neg r, upd_n _ _ r, upd_n _ _ r, upd_n _ _ (by omega), upd_n _ _ (by omega), upd_n _ _ (by omega), upd_n _ _ (by omega), upd_n _ _ (by omega), upd_n _ _ (by omega)]
          exact h1 m (by omega)
      · show upd (upd (upd q (7 + i) (nI kd)) (13 + i) (nI pl)) 20 (nI (i + 1)) 20 = nI (i + 1)
        rw [upd_s]
      · intro k hk
        show upd (upd (upd q (7 + i) (nI kd)) (13 + i) (nI pl)) 20 (nI (i + 1)) k = 0
        rw [upd_n _ _ (by omega), upd_n _ _ (by omega), upd_n _ _ (by omega)]; exact h3 k hk
      · show upd (upd (upd q (7 + i) (nI kd)) (13 + i) (nI pl)) 20 (nI (i + 1)) 19 = 0
        rw [upd_n _ _ (by omega), upd_n _ _ (by omega), upd_n _ _ (by omega)]; exact h4
      · show upd (upd (upd q (7 + i) (nI kd)) (13 + i) (nI pl)) 20 (nI (i + 1)) 21 = 0
        rw [upd_n _ _ (by omega), upd_n _ _ (by omega), upd_n _ _ (by omega)]; exact h5
      · try dsimp only
        rw [f_L_men_b22, if_neg (nI_ge hi (by omega)), hz7, bnd_e, k2', bnd_e, ad7 i, if_pos i7, hz8, bnd_e, l2', bnd_e, ad13 i, if_pos i13, if_pos i7, if_pos i13, c7, c13, e1, e2, man_e hw k1 l1 (by omega), bnd_e, if_pos rfl, if_pos (show inB 20 22 by decide), if_pos (show inB 20 22 by decide), nam_e, cl20, e3, nI_1]) (by
      rintro fu ⟨ck', cp', q⟩ -
      try dsimp only
      rw [f_L_men_b22, if_pos (nI_le (Nat.le_refl M) (by omega))]) (i := 0) (k := M) (fu := FU) (s := (ck, cp, upd (fun _ => 0) 20 0)) (by omega) (FU_lt (by omega)) ⟨fun _ => 0, fun _ => 0, fun m h => absurd h (Nat.not_lt_zero m), rfl, fun k hk => by
        show upd (fun _ => 0) 20 0 k = 0
        rw [upd_n _ _ (by omega)], rfl, rfl⟩
  dsimp only at h1 h2 h3 h4 h5
  refine ⟨M, kind, place, ck', cp', p', ?_, ⟨rfl, fun m hm => ⟨(h1 m hm).1, (h1 m hm).2.1⟩, hg, rfl, rfl⟩, ⟨h3, fun m hm => ⟨(h1 m hm).2.2.1, (h1 m hm).2.2.2.1⟩, h4, h2, h5⟩, ⟨by omega, fun k hk => Nat.zero_le 9, fun m hm => (h1 m hm).2.2.2.2, fun i h1 h2 => b_0 i, by decide⟩⟩
  unfold f_L_men
  rw [hz7, bnd_e, show (6 : Int32) + 1 = nI 7 by decide, m2, bnd_e, if_pos (show inB 20 22 by decide), cl20]
  exact e
/-- the page keeps the text -/
theorem TX.cong {t c : A32} {G : Nat} {one two len : Nat → Nat} {dor : Nat → Bool} {dr : Nat → Nat} {S n : Nat} {kn : Nat → Nat} (hX : TX t G one two len dor dr S kn n) (h : ∀ i, i < n → c i = t i) : TX c G one two len dor dr S kn n := by
  obtain ⟨x1, x2, x3, x4, x5, x6, x7⟩ := hX
  refine ⟨fun g hg => ?_, fun k hk => ?_, x3, x4, x5, x6, x7⟩
  · obtain ⟨⟨y1, y2, y3, y4⟩, y5⟩ := x1 g hg
    have p1 := pos_mono dor hg
    have p2 : pos dor (g + 1) ≤ pos dor G := by
      rcases Nat.lt_or_ge (g + 1) G with q | q
      · have := pos_mono dor q; omega
      · rw [show g + 1 = G by omega]; exact Nat.le_refl _
    have p3 := pos_ge dor (g + 1)
    refine ⟨⟨?_, ?_, ?_, fun hd => ?_⟩, ?_⟩
    · rw [h _ (by omega)]; exact y1
    · rw [h _ (by omega)]; exact y2
    · rw [h _ (by omega)]; exact y3
    · rw [h _ (by omega)]; exact y4 hd
    · rw [h _ (by omega)]; exact y5
  · obtain ⟨y1, y2, y3⟩ := x2 k hk
    refine ⟨?_, ?_, y3⟩
    · rw [h _ (by omega)]; exact y1
    · rw [h _ (by omega)]; exact y2
theorem mine_e {cl : A32} {G : Nat} {one two len : Nat → Nat} {dor : Nat → Bool} {dr : Nat → Nat} {S n : Nat} {kn : Nat → Nat} (hw : WF G one two len dr) (hX : TX cl G one two len dor dr S kn n) (mr r0 f0 g0 s0 a1 a2 a3 : Int32) (a4 a5 a6 a7 : A32) (b1 : Int32) (b2 b3 b4 b5 : A32) (d0 d1 d2 d3 d4 : Int32) (d5 : A32) :
    ∃ y1 y2 y3 y4 cd cs o1 o2 o3 cdr cbr ch ci cn csm vo ga, f_X10_mine mr (nI n) cl r0 f0 g0 s0 a1 a2 a3 a4 a5 a6 a7 b1 b2 b3 b4 b5 d0 d1 d2 d3 d4 d5 = some (nI G, mr + 1, 0, y1, y2, y3, y4, nI G, cd, cs, o1, o2, o3, cdr, cbr, ch, ci, cn, csm, 0, vo, 0, 0, 0, ga) ∧ MA (nI G) cd cs o1 o2 o3 cdr G one two len dor dr ∧ (∀ g, g < G → bt vo g = (fun _ => true) g) ∧ AO cbr ch ci G one two (fun _ => true) false dr ∧ SO csm G one two len (flw G one two (fun _ => true) false dr) ∧ ∀ k, k < 7 → ga k = 0 := by
  have hG := hw.1
  obtain ⟨⟨y1, y2, y3, y4⟩, ey⟩ := isMine_e hw hX r0 f0 g0 s0
  obtain ⟨cd, cs, o1, o2, o3, cdr, er, hM⟩ := readFrom_e hw hX a1 a2 a3 a4 a5 a6 a7
  obtain ⟨ga, eg, hga⟩ := fill_e (n := 7) (by decide) d5 0
  have hvo : ∀ g, g < G → bt (((1 : Int32) <<< (nI G &&& 31)) - 1) g = (fun _ => true) g := fun g hg => allG_all G (by omega) g hg
  obtain ⟨cbr, ch, ci, cn, csm, ew, hA, hSm⟩ := wind_e (moon := false) hM hw hvo b1 b2 b3 b4 b5
  have ew' : f_X10_windChanges (nI G) cs o1 o2 o3 cdr b1 b2 b3 b4 b5 (((1 : Int32) <<< (nI G &&& 31)) - 1) 0 = some (cbr, ch, ci, cn, csm) := ew
  refine ⟨y1, y2, y3, y4, cd, cs, o1, o2, o3, cdr, cbr, ch, ci, cn, csm, _, ga, ?_, hM, hvo, hA, hSm, hga⟩
  unfold f_X10_mine f_X5_allGalleries f_X3_begin
  rw [ey, bnd_e, if_neg (show ¬ (1 : Int32) = 0 by decide), er, bnd_e, bnd_e, eg, bnd_e, bnd_e, nam_e, ew', bnd_e]
theorem law_pure (n_q0 : Nat) (c_q0 : A32) (h : n_q0 ≤ 260) : f_L_law_b8 n_q0 c_q0 0 0 0 (fun _ => 0) 0 0 0 0 0 0 0 (fun _ => 0) (fun _ => 0) (fun _ => 0) (fun _ => 0) 0 (fun _ => 0) (fun _ => 0) (fun _ => 0) (fun _ => 0) 0 (fun _ => 0) 0 0 0 0 (fun _ => 0) (fun _ => 0) 0 0 0 0 (fun _ => 0) (fun _ => 0) 0 = some 1 := by
  obtain ⟨d, t, G, one, two, len, dor, dr, S, kn, nn, et, hw, hD, hX⟩ := mineText_e (xs := c_q0) h
  have hG := hw.1
  obtain ⟨hn, hv⟩ := tx_vals hw hX
  obtain ⟨c, ec, hc⟩ := write_e (cl := fun _ => 0) hn hv
  have hX' := hX.cong hc
  obtain ⟨f, sh, -, ef⟩ := fault_e hw hX' 0 0 0 0
  have ef' : f_X10_fault (nI nn) c 0 0 0 0 = some (nI nn, 5, f, nI G, sh) := by
    unfold f_X10_fault
    rw [ef, bnd_e]
  obtain ⟨y1, y2, y3, y4, cd, cs, o1, o2, o3, cdr, cbr, ch, ci, cn, csm, vo, ga, em, hM, hvo, hA, hSm, hga⟩ := mine_e hw hX' 0 5 f (nI G) sh 0 0 0 (fun _ => 0) (fun _ => 0) (fun _ => 0) (fun _ => 0) 0 (fun _ => 0) (fun _ => 0) (fun _ => 0) (fun _ => 0) 0 0 0 0 0 (fun _ => 0)
  obtain ⟨M, kind, place, ck, cp, p, en, hC, hP, hW⟩ := men_e (xs := c_q0) h hw (fun _ => 0) (fun _ => 0) ga hga
  have es : f_L_stands 59 22 (0 + 1) 0 0 (nI G) cd cs o1 o2 o3 cdr cbr ch ci (nI M) ck vo 0 0 0 ga cp d p = some 1 := L_stands_e (moon := false) (0 + 1) 0 0 hM hD hw hvo hA hC hP hW
  unfold f_L_law_b8
  rw [et, bnd_e, ec, bnd_e, if_neg (show ¬ (1 : Int32) = 0 by decide), ef', bnd_e, if_pos rfl, em, bnd_e, if_pos (show inB 0 59 by decide), if_pos (show nI G = d (Int32.toNatClampNeg 0) by rw [cl0, hD.1]), en, bnd_e, if_neg (show ¬ (1 : Int32) = 0 by decide), es, bnd_e, if_neg (show ¬ (1 : Int32) = 0 by decide)]
  exact as93 h (moon := false) ⟨hM, hw, hvo, rfl, hA, hSm, hC, hD, hP, hW⟩
