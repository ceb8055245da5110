/-! the law's mine and its text -/
theorem ct_two {p : Nat → Bool} {n a b : Nat} (ha : a < n) (hb : b < n) (hab : a ≠ b) (h1 : p a = true) (h2 : p b = true) : 2 ≤ fb_ct p n := by
  have e : fb_ct (fun j => if j = a then false else p j) n + (if p a = true then 1 else 0) = fb_ct p n + 0 := fb_ct_upd p false ha
  rw [h1, if_pos rfl] at e
  have : 0 < fb_ct (fun j => if j = a then false else p j) n := fb_ct_pos.mpr ⟨b, hb, by rw [if_neg (Ne.symm hab)]; exact h2⟩
  omega
theorem gal_exit {n : Nat} {xs : A32} {G v kn : Nat} {d t : A32} (hG : G ≤ 10) (h0 : d 0 = nI G) (hv : v ≤ 50) (v5 : Int32) (fu : Nat) :
    f_L_mineText_b41 59 64 n xs (nI 0) v5 (nI kn) (fu + 1) d t (nI v) (nI G) = (Option.bind (f_L_at (v5 >>> (12 &&& 31)) 3) fun z_3 => if z_3 = 0 then f_L_mineText_b285 59 64 n xs d (upd t v 59) 2 (v5 >>> (7 &&& 31)) 6 (nI 0) v5 (nI (v + 1)) else f_L_mineText_b285 59 64 n xs d (upd t v 59) 2 (v5 >>> (7 &&& 31)) 2 (nI 0) v5 (nI (v + 1))) := by
  have iv : inB (nI v) 64 := (inB_e (by omega)).mpr (by omega)
  have hl : d (Int32.toNatClampNeg 0) ≤ nI G := by rw [cl0, h0]; exact nI_le (Nat.le_refl G) (by omega)
  rw [f_L_mineText_b41, if_pos (show inB 0 59 by decide), if_pos hl, nam_e, nI_1, if_pos iv, cl_e (show v < 2 ^ 31 by omega)]
theorem mineText_e {n : Nat} {xs : A32} (hn : n ≤ 260) :
    ∃ d t G one two len dor dr S kn nn, f_L_mineText 59 64 n xs (fun _ => 0) (fun _ => 0) 0 10 = some (nI nn, d, t) ∧ WF G one two len dr ∧ DA d G one two len dor (fun _ => true) false dr ∧ TX t G one two len dor dr S kn nn := by
  obtain ⟨x, hx⟩ := cell_e n (by omega) xs 0 (by decide)
  obtain ⟨z2, a1, a2⟩ := at_e x (m := 5) (by decide) (by decide)
  obtain ⟨z4, b1, b2⟩ := at_e (x >>> (3 &&& 31)) (m := 10) (by decide) (by decide)
  have s0 : f_L_mineText 59 64 n xs (fun _ => 0) (fun _ => 0) 0 10 = f_L_mineText_b41 59 64 n xs (nI 0) x (nI (3 + z2)) FU (upd (upd (fun _ => 0) 0 (nI (1 + z4))) 51 0) (fun _ => 0) (nI 0) (nI 0) := by
    unfold f_L_mineText
    rw [show f_L_cell n xs 0 = some x from hx, bnd_e, show f_L_at x 5 = some (nI z2) from a2, bnd_e, nam_e, show f_L_at (x >>> (3 &&& 31)) 10 = some (nI z4) from b2, bnd_e, if_pos (show inB 0 59 by decide), if_pos (show inB 51 59 by decide), ad1, show (3 : Int32) + nI z2 = nI (3 + z2) from nI_add 3 z2]
    rfl
  have hG : 1 ≤ 1 + z4 ∧ 1 + z4 ≤ 10 := by omega
  generalize 1 + z4 = G at *
  generalize hkn : 3 + z2 = kn at *
  have hkn2 : 3 ≤ kn ∧ kn ≤ 7 := by omega
  obtain ⟨⟨d1, t1, v⟩, ⟨one, two, len, dor, hI1⟩, e1⟩ := lp (fun fu (s : A32 × A32 × Nat) i => f_L_mineText_b41 59 64 n xs (nI 0) x (nI kn) fu s.1 s.2.1 (nI s.2.2) (nI i)) G
    (fun i s => ∃ one two len dor, GI G i s.1 s.2.1 s.2.2 one two len dor)
    (fun s => f_L_mineText_b41 59 64 n xs (nI 0) x (nI kn) 1 s.1 s.2.1 (nI s.2.2) (nI G)) (by
      rintro fu i ⟨d, t, v⟩ hi ⟨one, two, len, dor, h⟩
      obtain ⟨d', t', v', one', two', len', dor', h', e⟩ := gal_step hn hG.2 hi h hkn2.1 hkn2.2 x fu
      exact ⟨(d', t', v'), ⟨one', two', len', dor', h'⟩, e⟩) (by
      rintro fu ⟨d, t, v⟩ ⟨one, two, len, dor, h⟩
      have h0 : d 0 = nI G := h.1
      have hvv : v = if G = 0 then 0 else pos dor G - 1 := h.2.2.1
      have hv : v ≤ 50 := by
        rw [hvv]
        have := pos_le dor G
        split <;> omega
      exact (gal_exit hG.2 h0 hv x fu).trans (gal_exit hG.2 h0 hv x 0).symm) (i := 0) (k := G) (fu := FU) (s := (upd (upd (fun _ => 0) 0 (nI G)) 51 0, fun _ => 0, 0)) (by omega) (FU_lt (by omega)) ⟨fun _ => 0, fun _ => 0, fun _ => 0, fun _ => false, by
        refine ⟨?_, ?_, rfl, fun j hj => absurd hj (Nat.not_lt_zero j)⟩
        · simp (disch := omega) only [upd_n, upd_s]
        · simp (disch := omega) only [upd_s]⟩
  dsimp only at e1
  rw [s0, e1]
  obtain ⟨g0, g51, hv, hg⟩ := hI1
  dsimp only at g0 g51 hv hg
  rw [if_neg (by omega)] at hv
  have hpl := pos_le dor G
  have hpg := pos_ge dor G
  obtain ⟨e, he⟩ : ∃ e, e = pos dor G := ⟨_, rfl⟩
  have hve : v + 1 = e := by omega
  have he50 : e ≤ 50 := by omega
  -- how many shafts
  obtain ⟨S, hS2, hS7, eS⟩ : ∃ S, 2 ≤ S ∧ S ≤ 7 ∧ f_L_mineText_b41 59 64 n xs (nI 0) x (nI kn) 1 d1 t1 (nI v) (nI G) = f_L_mineText_b294 59 64 n xs (upd t1 v 59) (nI 0) x (nI e) (nI S) FU d1 0 := by
    obtain ⟨z3, c1, c2⟩ := at_e (x >>> (12 &&& 31)) (m := 3) (by decide) (by decide)
    obtain ⟨z6, c3, c4⟩ := at_e (x >>> (7 &&& 31)) (m := 6) (by decide) (by decide)
    obtain ⟨z7, c5, c6⟩ := at_e (x >>> (7 &&& 31)) (m := 2) (by decide) (by decide)
    have c2' : f_L_at (x >>> (12 &&& 31)) 3 = some (nI z3) := c2
    have c4' : f_L_at (x >>> (7 &&& 31)) 6 = some (nI z6) := c4
    have c6' : f_L_at (x >>> (7 &&& 31)) 2 = some (nI z7) := c6
    have ad2 : ∀ z, (2 : Int32) + nI z = nI (2 + z) := fun z => nI_add 2 z
    rw [gal_exit hG.2 g0 (by omega) x 0, c2', bnd_e, hve]
    unfold f_L_mineText_b285
    by_cases q : z3 = 0
    · refine ⟨2 + z6, by omega, by omega, ?_⟩
      rw [if_pos (show nI z3 = 0 by rw [q]; rfl), c4', bnd_e, nam_e, ad2]
    · refine ⟨2 + z7, by omega, by omega, ?_⟩
      rw [if_neg (nI_ne0 (n := z3) (by omega) (by omega)), c6', bnd_e, nam_e, ad2]
  rw [eS]
  obtain ⟨d2, ⟨h2a, h2b⟩, e2⟩ := lp (fun fu (s : A32) i => f_L_mineText_b294 59 64 n xs (upd t1 v 59) (nI 0) x (nI e) (nI S) fu s (nI i)) 7
    (fun i s => (∀ j, j < 52 → s j = d1 j) ∧ ∀ q, q < i → s (52 + q) = 0)
    (fun s => f_L_mineText_b318 59 64 n xs (nI 0) x (nI S) FU s (upd t1 v 59) (nI e) 0) (by
      rintro fu i s hi ⟨h1, h2⟩
      refine ⟨upd s (52 + i) 0, ⟨fun j hj => ?_, fun q hq => ?_⟩, ?_⟩
      · rw [upd_n _ _ (by omega)]; exact h1 j hj
      · rw [upd_e]
        by_cases r : q = i
        · subst r; rw [if_pos rfl]
        · rw [if_neg (by omega)]; exact h2 q (by omega)
      · simp (disch := omega) only [f_L_mineText_b294, le7F, if_false, ad52, inT, if_true, nam_e, cl_e, nI_1]) (by
      intro fu s _
      simp (disch := omega) only [f_L_mineText_b294, le7T, if_true]) (i := 0) (k := 7) (fu := FU) (s := d1) rfl (FU_lt (by decide)) ⟨fun _ _ => rfl, fun q h => absurd h (Nat.not_lt_zero q)⟩
  rw [show f_L_mineText_b294 59 64 n xs (upd t1 v 59) (nI 0) x (nI e) (nI S) FU d1 0 = f_L_mineText_b318 59 64 n xs (nI 0) x (nI S) FU d2 (upd t1 v 59) (nI e) 0 from e2]
  obtain ⟨⟨d3, t3, v3⟩, ⟨kns, dr, hSI, hd3, ht3⟩, e3⟩ := lp (fun fu (s : A32 × A32 × Nat) i => f_L_mineText_b318 59 64 n xs (nI 0) x (nI S) fu s.1 s.2.1 (nI s.2.2) (nI i)) S
    (fun i s => ∃ kn dr, SI s.1 s.2.1 e i s.2.2 kn dr ∧ (∀ j, j < 52 → s.1 j = d2 j) ∧ ∀ j, j < e → s.2.1 j = upd t1 v 59 j)
    (fun s => some (nI s.2.2, s.1, s.2.1)) (by
      rintro fu i ⟨d, t, v⟩ hi ⟨kns, dr, h1, h2, h3⟩
      obtain ⟨d', t', v', kn', dr', q1, q2, q3, q4⟩ := shaft_step (n := n) (xs := xs) hn he50 (show i < 7 by omega) h1 x hi hS7 fu
      refine ⟨(d', t', v'), ⟨kn', dr', q1, fun j hj => ?_, fun j hj => ?_⟩, q4⟩
      · exact (q2 j hj).trans (h2 j hj)
      · exact (q3 j hj).trans (h3 j hj)) (by
      rintro fu ⟨d, t, v⟩ -
      simp (disch := omega) only [f_L_mineText_b318, leT, if_true]) (i := 0) (k := S) (fu := FU) (s := (d2, upd t1 v 59, e)) (by omega) (FU_lt (by omega)) ⟨fun _ => 0, fun _ => 0, ⟨rfl, fun q hq => (h2b q hq), fun i hi => absurd hi (Nat.not_lt_zero i), fun i j _ hj => absurd hj (Nat.not_lt_zero j), fun q _ hp => absurd hp (Nat.lt_irrefl 0)⟩, fun _ _ => rfl, fun _ _ => rfl⟩
  obtain ⟨s1, s2, s3, s4, s5⟩ := hSI
  dsimp only at s1 s2 s3 s4 s5 hd3 ht3
  refine ⟨d3, t3, G, one, two, len, dor, dr, S, kns, v3, e3, ⟨hG, fun g hgG => (hg g hgG).2.1, fun k hk => ?_, ?_⟩, ⟨?_, ?_, fun g hgG => ?_, s2⟩, ⟨fun g hgG => ?_, fun k hk => ?_, s4, s5, hS2, hS7, ?_⟩⟩
  · rcases Nat.eq_zero_or_pos (dr k) with r | r
    · omega
    · obtain ⟨i, hi, rfl⟩ := s5 k hk r
      exact (s3 i hi).2.2.2.2
  · have p0 := s3 0 (by omega)
    have p1 := s3 1 (by omega)
    exact ct_two p0.2.2.1 p1.2.2.1 (s4 0 1 (by decide) (by omega)) (decide_eq_true (by omega)) (decide_eq_true (by omega))
  · rw [hd3 0 (by decide), h2a 0 (by decide)]; exact g0
  · rw [hd3 51 (by decide), h2a 51 (by decide)]; exact g51
  · obtain ⟨⟨q1, q2, q3, q4, q5⟩, -⟩ := hg g hgG
    have := hG.2
    refine ⟨?_, ?_, ?_, ?_, ?_⟩
    · rw [hd3 _ (by omega), h2a _ (by omega)]; exact q1
    · rw [hd3 _ (by omega), h2a _ (by omega)]; exact q2
    · rw [hd3 _ (by omega), h2a _ (by omega)]; exact q3
    · rw [hd3 _ (by omega), h2a _ (by omega)]; exact q4
    · rw [hd3 _ (by omega), h2a _ (by omega)]; exact q5
  · obtain ⟨-, -, ⟨l1, l2, l3, l4⟩, l5⟩ := hg g hgG
    have hpm := pos_mono dor hgG
    have keep : ∀ j, j < v → t3 j = t1 j := fun j hj => by rw [ht3 j (by omega), upd_n _ _ (by omega)]
    refine ⟨⟨?_, ?_, ?_, fun hdg => ?_⟩, ?_⟩
    · rw [keep _ (by omega)]; exact l1
    · rw [keep _ (by omega)]; exact l2
    · rw [keep _ (by omega)]; exact l3
    · rw [hdg, if_pos rfl] at hpm
      rw [keep _ (by omega)]; exact l4 hdg
    · by_cases r : g + 1 < G
      · have hpm2 := pos_mono dor r
        rw [if_pos r, keep _ (by omega)]
        exact l5 r
      · have : g + 1 = G := by omega
        rw [if_neg r, this, ← he, show e - 1 = v by omega, ht3 v (by omega), upd_s]
        rfl
  · rw [← he]
    exact s3 k hk
  · rw [s1, he]
