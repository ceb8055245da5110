/-! the law's last word, and its loop of turns -/
theorem kn7 : f_X10_isKnot 7 = some 0 := by decide
theorem kn0 : f_X10_isKnot 0 = some 1 := by decide
theorem knm : f_X10_isKnot (-1) = some 0 := by decide
theorem ki0 : f_X1_isKind 0 = some 1 := by decide
theorem ki5 : f_X1_isKind 5 = some 0 := by decide
section TURN3
variable {n : Nat} {xs t : A32} {g1 g2 g3 : Int32} {g4 : A32} {g5 g6 g7 g8 : Int32} {cg cdoors cshafts : Int32} {cone ctwo clen cdr : A32} {cbr : Int32} {ch ci cn csm : A32} {csize : Int32} {ckinds : A32} {copen cmoon cout cgone : Int32} {cgas cplace d p : A32} {x1 x2 x3 x4 : Int32} {x5 x6 : A32} {x7 : Int32} {G : Nat} {one two len : Nat → Nat} {dor : Nat → Bool} {dr : Nat → Nat} {opn : Nat → Bool} {moon : Bool} {gas kind place : Nat → Nat} {outx : Int32} {M T T0 : Nat}
theorem man_no (hG : 1 ≤ G ∧ G ≤ 10) : f_X10_man (nI G) csize ckinds cplace 5 0 = some (-102, csize, ckinds, cplace) ∧ f_X10_man (nI G) csize ckinds cplace 0 7 = some (-101, csize, ckinds, cplace) ∧ (¬ csize < 6 → f_X10_man (nI G) csize ckinds cplace 0 0 = some (-104, csize, ckinds, cplace)) := by
  refine ⟨?_, ?_, fun h => ?_⟩
  · unfold f_X10_man
    rw [isRead_e hG.1 hG.2, bnd_e, if_neg (by decide), ki5, bnd_e, if_pos rfl]
  · unfold f_X10_man
    rw [isRead_e hG.1 hG.2, bnd_e, if_neg (by decide), ki0, bnd_e, if_neg (by decide), kn7, bnd_e, if_pos rfl]
  · unfold f_X10_man
    rw [isRead_e hG.1 hG.2, bnd_e, if_neg (by decide), ki0, bnd_e, if_neg (by decide), kn0, bnd_e, if_neg (by decide), if_neg h]
theorem walks_no (hG : 1 ≤ G ∧ G ≤ 10) (v1 v2 v3 : Int32) (h : (v1 = 0 ∧ v2 = 0 ∧ v3 = 0) ∨ (v1 = 1 ∧ v2 = -1 ∧ v3 = 0) ∨ (v1 = 1 ∧ v2 = 0 ∧ v3 = 4)) : f_X10_walks (nI G) cone ctwo cbr csize ckinds copen cmoon cout cgone cgas cplace x1 x2 x3 x4 x5 x6 x7 v1 v2 v3 = some (-102, x1, x2, x3, x4, x5, x6, x7) := by
  unfold f_X10_walks
  rw [isRead_e hG.1 hG.2, bnd_e, if_neg (by decide)]
  rcases h with ⟨rfl, rfl, rfl⟩ | ⟨rfl, rfl, rfl⟩ | ⟨rfl, rfl, rfl⟩
  · rw [if_pos (by decide)]
  · rw [if_neg (by decide), if_neg (by decide), if_pos (by decide)]
  · rw [if_neg (by decide), if_neg (by decide), if_neg (by decide), if_neg (by decide), if_neg (by decide)]
theorem end943 (hG : 1 ≤ G ∧ G ≤ 10) (hM6 : M ≤ 6) : f_L_law_b943 n xs g1 g3 g4 g5 g6 g7 g8 (nI G) cdoors cshafts cone ctwo clen cdr cbr ch ci cn csm (nI M) ckinds copen cmoon cout cgone cgas cplace x1 x2 x3 x4 x5 x6 x7 d p t (nI M) = some 1 := by
  have m0 : f_X10_minutes (nI G) cbr (nI M) ckinds cout cgone cgas cplace 0 = some (-102, cout, cgone, cgas) := by
    unfold f_X10_minutes
    rw [if_pos (by decide)]
  have m1 : f_X10_minutes (nI G) cbr (nI M) ckinds cout cgone cgas cplace 61 = some (-102, cout, cgone, cgas) := by
    unfold f_X10_minutes
    rw [if_neg (by decide), if_neg (by decide)]
  have sm1 : f_X10_smelt (nI G) csm 7 0 = some (-101) := by
    unfold f_X10_smelt
    rw [isRead_e hG.1 hG.2, bnd_e, if_neg (by decide), kn7, bnd_e, if_pos rfl]
  have sm2 : f_X10_smelt (nI G) csm 0 (-1) = some (-101) := by
    unfold f_X10_smelt
    rw [isRead_e hG.1 hG.2, bnd_e, if_neg (by decide), kn0, bnd_e, if_neg (by decide), knm, bnd_e, if_pos rfl]
  have wo : f_X10_wayOut (nI G) cshafts cone ctwo ci 7 = some (-101) := by
    unfold f_X10_wayOut
    rw [isRead_e hG.1 hG.2, bnd_e, if_neg (by decide), kn7, bnd_e, if_pos rfl]
  unfold f_L_law_b943
  rw [m0, bnd_e, if_pos rfl, m1, bnd_e, if_pos rfl, sm1, bnd_e, if_pos rfl, sm2, bnd_e, if_pos rfl, wo, bnd_e, if_pos rfl,
    walks_no hG 0 0 0 (Or.inl ⟨rfl, rfl, rfl⟩), bnd_e, if_pos rfl, walks_no hG 1 (-1) 0 (Or.inr (Or.inl ⟨rfl, rfl, rfl⟩)), bnd_e, if_pos rfl, walks_no hG 1 0 4 (Or.inr (Or.inr ⟨rfl, rfl, rfl⟩)), bnd_e, if_pos rfl]
  by_cases q : M < 6
  · rw [if_pos (show nI M < 6 from nI_lt (b := 6) q (by decide))]
    rfl
  · rw [if_neg (show ¬ nI M < 6 from nI_nlt (b := 6) (by omega) (by omega)), (man_no hG).2.2 (show ¬ nI M < 6 from nI_nlt (b := 6) (by omega) (by omega)), bnd_e, if_pos rfl]
    rfl
theorem go_end (hS : ST cg cdoors cshafts cone ctwo clen cdr cbr ch ci csm csize ckinds copen cmoon cout cgone cgas cplace d p G one two len dor dr opn moon gas kind place outx M T) (fu : Nat) : f_L_law_b179 n xs g1 g2 g3 g4 g5 g6 g7 g8 cg cdoors cshafts cone ctwo clen cdr csize ckinds t (fu + 1) cbr ch ci cn csm copen cmoon cout cgone cgas cplace x1 x2 x3 x4 x5 x6 x7 d p (nI 12) = some 1 := by
  obtain ⟨s1, s2, s3, s4, s5, s6, s7, s8, s9, s10⟩ := hS
  have hG := s2.1
  have hM6 := s10.1
  have h0 := s8.1
  have h20 := s9.2.2.2.1
  obtain ⟨c1, c2, c3, c4, c5⟩ := s7
  have e1 := s1.1
  subst c1 e1
  have G0 : f_X5_hasGallery (nI G) 0 = some 1 := hasG_e (g := 0) hG.2 (by omega)
  have GG : f_X5_hasGallery (nI G) (nI G) = some 0 := hasG_o (Nat.le_refl G) (by omega)
  have HM : f_X1_has (nI M) (nI M) = some 0 := has_o (Nat.le_refl M) (by omega)
  have ga : f_X10_gallery (nI G) cdoors cone ctwo clen ci copen (nI G) 0 = some (-101) := by
    unfold f_X10_gallery
    rw [GG, bnd_e, if_pos rfl]
  have gb : f_X10_gallery (nI G) cdoors cone ctwo clen ci copen 0 6 = some (-102) := by
    unfold f_X10_gallery
    rw [G0, bnd_e, if_neg (by decide), if_neg (by decide), if_neg (by decide), if_neg (by decide), if_neg (by decide), if_neg (by decide), if_neg (by decide)]
  have ka : f_X10_knot (nI G) cdr cbr ch cgas 7 0 = some (-101) := by
    unfold f_X10_knot
    rw [isRead_e hG.1 hG.2, bnd_e, if_neg (by decide), kn7, bnd_e, if_pos rfl]
  have kb : f_X10_knot (nI G) cdr cbr ch cgas 0 4 = some (-102) := by
    unfold f_X10_knot
    rw [isRead_e hG.1 hG.2, bnd_e, if_neg (by decide), kn0, bnd_e, if_neg (by decide), if_neg (by decide), if_neg (by decide), if_neg (by decide), if_neg (by decide)]
  have dn : f_X10_door (nI G) cdoors cshafts cone ctwo clen cdr cbr ch ci cn csm copen cmoon (nI G) 1 = some (-101, cbr, ch, ci, cn, csm, copen) := by
    unfold f_X10_door
    rw [GG, bnd_e, if_pos rfl]
  have ab : f_X10_about (nI M) ckinds cout cplace (nI M) 0 = some (-101) := by
    unfold f_X10_about
    rw [HM, bnd_e, if_pos rfl]
  have as : f_X10_as (nI M) ckinds (nI M) 0 = some (-101) := by
    unfold f_X10_as
    rw [HM, bnd_e, if_pos rfl]
  have wk : f_X10_walk (nI G) cone ctwo (nI M) ckinds copen cout cplace (nI M) 0 = some (-101, cplace) := by
    unfold f_X10_walk
    rw [HM, bnd_e, if_pos rfl]
  obtain ⟨ma, mb, -⟩ := man_no (csize := nI M) (ckinds := ckinds) (cplace := cplace) hG
  rw [f_L_law_b179, if_pos (show (12 : Int32) ≤ nI 12 by decide), if_pos (show inB 0 59 by decide), nam_e, if_pos (show inB 20 22 by decide), nam_e, cl0, cl20, h0, h20,
    ga, bnd_e, if_pos rfl, gb, bnd_e, if_pos rfl, ka, bnd_e, if_pos rfl, kb, bnd_e, if_pos rfl, dn, bnd_e, if_pos rfl, ma, bnd_e, if_pos rfl, mb, bnd_e, if_pos rfl, ab, bnd_e, if_pos rfl, as, bnd_e, if_pos rfl, wk, bnd_e, if_pos rfl]
  by_cases q : M = 0
  · rw [if_pos (show nI M = 0 by rw [q]; rfl)]
    exact end943 hG hM6
  · have H0 : f_X1_has (nI M) 0 = some 1 := has_e (m := 0) hM6 (by omega)
    have w0 : f_X10_walk (nI G) cone ctwo (nI M) ckinds copen cout cplace 0 (nI G) = some (-101, cplace) := by
      unfold f_X10_walk
      rw [H0, bnd_e, if_neg (by decide), GG, bnd_e, if_pos rfl]
    have a0 : f_X10_about (nI M) ckinds cout cplace 0 4 = some (-102) := by
      unfold f_X10_about
      rw [H0, bnd_e, if_neg (by decide), if_neg (by decide), if_neg (by decide), if_neg (by decide), if_neg (by decide)]
    have s0 : f_X10_as (nI M) ckinds 0 5 = some (-102) := by
      unfold f_X10_as
      rw [H0, bnd_e, if_neg (by decide), ki5, bnd_e, if_pos rfl]
    rw [if_neg (nI_ne0 (n := M) (by omega) (by omega)), w0, bnd_e, if_pos rfl, a0, bnd_e, if_pos rfl, s0, bnd_e, if_pos rfl]
    exact end943 hG hM6
end TURN3
theorem go_loop {n : Nat} (hn : n ≤ 260) {xs t : A32} {g1 g2 g3 : Int32} {g4 : A32} {g5 g6 g7 g8 : Int32} {cg cdoors cshafts : Int32} {cone ctwo clen cdr : A32} {csize : Int32} {ckinds : A32} {G : Nat} {one two len : Nat → Nat} {dor : Nat → Bool} {dr kind : Nat → Nat} {M : Nat} : ∀ k i fu, i + k = 12 → k < fu → ∀ (cbr : Int32) (ch ci cn csm : A32) (copen cmoon cout cgone : Int32) (cgas cplace : A32) (x1 x2 x3 x4 : Int32) (x5 x6 : A32) (x7 : Int32) (d p : A32) (opn : Nat → Bool) (moon : Bool) (gas place : Nat → Nat) (outx : Int32) (T : Nat), ST cg cdoors cshafts cone ctwo clen cdr cbr ch ci csm csize ckinds copen cmoon cout cgone cgas cplace d p G one two len dor dr opn moon gas kind place outx M T → T ≤ 60 * i →
    f_L_law_b179 n xs g1 g2 g3 g4 g5 g6 g7 g8 cg cdoors cshafts cone ctwo clen cdr csize ckinds t fu cbr ch ci cn csm copen cmoon cout cgone cgas cplace x1 x2 x3 x4 x5 x6 x7 d p (nI i) = some 1 := by
  intro k
  induction k with
  | zero =>
    intro i fu h1 h2 cbr ch ci cn csm copen cmoon cout cgone cgas cplace x1 x2 x3 x4 x5 x6 x7 d p opn moon gas place outx T hS hT
    have e1 : i = 12 := by omega
    obtain ⟨f, rfl⟩ : ∃ f, fu = f + 1 := ⟨fu - 1, by omega⟩
    subst e1
    exact go_end hS f
  | succ k ih =>
    intro i fu h1 h2 cbr ch ci cn csm copen cmoon cout cgone cgas cplace x1 x2 x3 x4 x5 x6 x7 d p opn moon gas place outx T hS hT
    obtain ⟨f, rfl⟩ : ∃ f, fu = f + 1 := ⟨fu - 1, by omega⟩
    have hG := hS.2.1.1
    have h0 := hS.2.2.2.2.2.2.2.1.1
    have h20 := hS.2.2.2.2.2.2.2.2.1.2.2.2.1
    have hM6 := hS.2.2.2.2.2.2.2.2.2.1
    obtain ⟨z, hz⟩ := cell_e n (by omega) xs (9 + i) (by omega)
    obtain ⟨v8, b1, b2⟩ := at_e z (m := 8) (by decide) (by decide)
    have b2' : f_L_at z 8 = some (nI v8) := b2
    obtain ⟨g, c1, c2⟩ := at_e (z >>> (3 &&& 31)) (m := G) (by omega) (by omega)
    have fin : ∀ (m : Nat) (r : Option Int32), (GO (f_L_law_b179 n xs g1 g2 g3 g4 g5 g6 g7 g8 cg cdoors cshafts cone ctwo clen cdr csize ckinds t f) cg cdoors cshafts cone ctwo clen cdr csize ckinds G one two len dor dr kind M T (nI i) r) → r = some 1 := by
      rintro m r ⟨cbr', ch', ci', cn', csm', copen', cmoon', cout', cgone', cgas', cplace', y1, y2, y3, y4, y5, y6, y7, d', p', opn', moon', gas', place', outx', T', hS', hT', e⟩
      rw [e, nI_1]
      exact ih (i + 1) f (by omega) (by omega) cbr' ch' ci' cn' csm' copen' cmoon' cout' cgone' cgas' cplace' y1 y2 y3 y4 y5 y6 y7 d' p' opn' moon' gas' place' outx' T' hS' (by omega)
    rw [f_L_law_b179, if_neg (show ¬ (12 : Int32) ≤ nI i from nI_ge (b := 12) (by omega) (by decide)), show (9 : Int32) + nI i = nI (9 + i) from nI_add 9 i, hz, bnd_e, b2', bnd_e, if_pos (show inB 0 59 by decide), cl0, h0, c2, bnd_e, if_pos (show inB 20 22 by decide)]
    by_cases q : M = 0
    · rw [if_pos (show p (Int32.toNatClampNeg 20) = 0 by rw [cl20, h20, q]; rfl)]
      exact fin 0 _ (go_turn (m := 0) hS (by omega) hn _ (by omega) z b1 c1 (fun h => by omega))
    · obtain ⟨m, m1, m2⟩ := at_e (z >>> (7 &&& 31)) (m := M) (by omega) (by omega)
      rw [if_neg (show ¬ p (Int32.toNatClampNeg 20) = 0 by rw [cl20, h20]; exact nI_ne0 (n := M) (by omega) (by omega)), if_pos (show inB 20 22 by decide), cl20, h20, m2, bnd_e]
      exact fin m _ (go_turn (m := m) hS (by omega) hn _ (by omega) z b1 c1 (fun h => m1))
