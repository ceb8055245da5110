/-! a turn of the law -/
def ST (cg cdoors cshafts : Int32) (cone ctwo clen cdr : A32) (cbr : Int32) (ch ci csm : A32) (csize : Int32) (ckinds : A32) (copen cmoon cout cgone : Int32) (cgas cplace d p : A32) (G : Nat) (one two len : Nat → Nat) (dor : Nat → Bool) (dr : Nat → Nat) (opn : Nat → Bool) (moon : Bool) (gas kind place : Nat → Nat) (outx : Int32) (M T : Nat) : Prop :=
  MA cg cdoors cshafts cone ctwo clen cdr G one two len dor dr ∧ WF G one two len dr ∧ (∀ g, g < G → bt copen g = opn g) ∧ cmoon = b2i moon ∧ AO cbr ch ci G one two opn moon dr ∧ SO csm G one two len (flw G one two opn moon dr) ∧ CM csize ckinds cplace cgas cout cgone gas kind place outx M T ∧ DA d G one two len dor opn moon dr ∧ PA p gas kind place outx M T ∧ WM gas kind place outx M T
abbrev KT : Type := Int32 → A32 → A32 → A32 → A32 → Int32 → Int32 → Int32 → Int32 → A32 → A32 → Int32 → Int32 → Int32 → Int32 → A32 → A32 → Int32 → A32 → A32 → Int32 → Option Int32
/-- the turn ends well: the next turn's state stands -/
def GO (K : KT) (cg cdoors cshafts : Int32) (cone ctwo clen cdr : A32) (csize : Int32) (ckinds : A32) (G : Nat) (one two len : Nat → Nat) (dor : Nat → Bool) (dr kind : Nat → Nat) (M T : Nat) (v6 : Int32) (r : Option Int32) : Prop :=
  ∃ (cbr : Int32) (ch ci cn csm : A32) (copen cmoon cout cgone : Int32) (cgas cplace : A32) (x1 x2 x3 x4 : Int32) (x5 x6 : A32) (x7 : Int32) (d p : A32) (opn : Nat → Bool) (moon : Bool) (gas place : Nat → Nat) (outx : Int32) (T' : Nat), ST cg cdoors cshafts cone ctwo clen cdr cbr ch ci csm csize ckinds copen cmoon cout cgone cgas cplace d p G one two len dor dr opn moon gas kind place outx M T' ∧ T' ≤ T + 60 ∧ r = K cbr ch ci cn csm copen cmoon cout cgone cgas cplace x1 x2 x3 x4 x5 x6 x7 d p (v6 + 1)
section TURN
variable {n : Nat} {xs t : A32} {g1 g2 g3 : Int32} {g4 : A32} {g5 g6 g7 g8 : Int32} {cg cdoors cshafts : Int32} {cone ctwo clen cdr : A32} {cbr : Int32} {ch ci cn csm : A32} {csize : Int32} {ckinds : A32} {copen cmoon cout cgone : Int32} {cgas cplace d p : A32} {x1 x2 x3 x4 : Int32} {x5 x6 : A32} {x7 : Int32} {G : Nat} {one two len : Nat → Nat} {dor : Nat → Bool} {dr : Nat → Nat} {opn : Nat → Bool} {moon : Bool} {gas kind place : Nat → Nat} {outx : Int32} {M T T0 : Nat}
theorem go758 (hS : ST cg cdoors cshafts cone ctwo clen cdr cbr ch ci csm csize ckinds copen cmoon cout cgone cgas cplace d p G one two len dor dr opn moon gas kind place outx M T) (hT : T ≤ T0 + 60) (K : KT) (v6 : Int32) : GO K cg cdoors cshafts cone ctwo clen cdr csize ckinds G one two len dor dr kind M T0 v6 (f_L_law_b758 K n xs g1 g2 g3 g4 g5 g6 g7 g8 cg cdoors cshafts cone ctwo clen cdr cbr ch ci cn csm csize ckinds copen cmoon cout cgone cgas cplace x1 x2 x3 x4 x5 x6 x7 d p t v6) := by
  have hS' := hS
  obtain ⟨s1, s2, s3, s4, s5, s6, s7, s8, s9, s10⟩ := hS
  refine ⟨cbr, ch, ci, cn, csm, copen, cmoon, cout, cgone, cgas, cplace, x1, x2, x3, x4, x5, x6, x7, d, p, opn, moon, gas, place, outx, T, hS', hT, ?_⟩
  unfold f_L_law_b758
  subst s4
  rw [L_stands_e g1 g2 g3 s1 s8 s2 s3 s5 s7 s9 s10, bnd_e, if_neg (by decide), nam_e]
theorem DA.door {g : Nat} (hD : DA d G one two len dor opn moon dr) (hG : G ≤ 10) (hg : g < G) (op : Bool) : DA (upd d (41 + g) (b2i op)) G one two len dor (fun k => if k = g then op else opn k) moon dr := by
  obtain ⟨h0, h51, h1, h2⟩ := hD
  refine ⟨?_, ?_, fun k hk => ?_, fun k hk => ?_⟩
  · rw [upd_n _ _ (by omega)]; exact h0
  · rw [upd_n _ _ (by omega)]; exact h51
  · obtain ⟨a1, a2, a3, a4, a5⟩ := h1 k hk
    refine ⟨?_, ?_, ?_, ?_, ?_⟩
    · rw [upd_n _ _ (by omega)]; exact a1
    · rw [upd_n _ _ (by omega)]; exact a2
    · rw [upd_n _ _ (by omega)]; exact a3
    · rw [upd_n _ _ (by omega)]; exact a4
    · show upd d (41 + g) (b2i op) (41 + k) = b2i (if k = g then op else opn k)
      rw [upd_e]
      by_cases q : k = g
      · subst q; rw [if_pos rfl, if_pos rfl]
      · rw [if_neg (by omega), if_neg q]; exact a5
  · rw [upd_n _ _ (by omega)]; exact h2 k hk
theorem DA.turn (hD : DA d G one two len dor opn moon dr) (hG : G ≤ 10) : DA (upd d 51 (b2i (!moon))) G one two len dor opn (!moon) dr := by
  obtain ⟨h0, h51, h1, h2⟩ := hD
  refine ⟨?_, upd_s _ _ _, fun k hk => ?_, fun k hk => ?_⟩
  · rw [upd_n _ _ (by omega)]; exact h0
  · obtain ⟨a1, a2, a3, a4, a5⟩ := h1 k hk
    refine ⟨?_, ?_, ?_, ?_, ?_⟩
    · rw [upd_n _ _ (by omega)]; exact a1
    · rw [upd_n _ _ (by omega)]; exact a2
    · rw [upd_n _ _ (by omega)]; exact a3
    · rw [upd_n _ _ (by omega)]; exact a4
    · rw [upd_n _ _ (by omega)]; exact a5
  · rw [upd_n _ _ (by omega)]; exact h2 k hk
theorem go_door (hS : ST cg cdoors cshafts cone ctwo clen cdr cbr ch ci csm csize ckinds copen cmoon cout cgone cgas cplace d p G one two len dor dr opn moon gas kind place outx M T) (K : KT) (v6 : Int32) {g : Nat} (hg : g < G) (op : Bool) : GO K cg cdoors cshafts cone ctwo clen cdr csize ckinds G one two len dor dr kind M T v6 (f_L_law_b266 K n xs g1 g2 g3 g4 g5 g6 g7 g8 cg cdoors cshafts cone ctwo clen cdr cbr ch ci cn csm csize ckinds copen cmoon cout cgone cgas cplace x1 x2 x3 x4 x5 x6 x7 d p t (b2i op) v6 (nI g)) := by
  have hS' := hS
  obtain ⟨s1, s2, s3, s4, s5, s6, s7, s8, s9, s10⟩ := hS
  have hG := s2.1
  obtain ⟨e1, e2, e3, e4, e5⟩ := s8.2.2.1 g hg
  have i31 : inB (nI (31 + g)) 59 := (inB_e (by omega)).mpr (by omega)
  have i41 : inB (nI (41 + g)) 59 := (inB_e (by omega)).mpr (by omega)
  have c31 := cl_e (show 31 + g < 2 ^ 31 by omega)
  have c41 := cl_e (show 41 + g < 2 ^ 31 by omega)
  cases hd : dor g
  · unfold f_L_law_b266
    rw [door_n s1 s2 hg hd, bnd_e, ad31, if_pos i31, if_pos (show d (nI (31 + g)).toNatClampNeg = 0 by rw [c31, e4, hd]; rfl)]
    unfold f_L_law_b298
    rw [if_pos rfl, ad31, if_pos i31, if_neg (show ¬ d (nI (31 + g)).toNatClampNeg = 1 by rw [c31, e4, hd]; decide)]
    unfold f_L_law_b331
    exact go758 hS' (by omega) K v6
  · subst s4
    obtain ⟨cbr', ch', ci', cn', cs', o', ed, ho', hA', hS1⟩ := door_y (moon := moon) s1 s2 s3 hg hd cbr ch ci cn csm op
    unfold f_L_law_b266
    rw [ed, bnd_e, ad31, if_pos i31, if_neg (show ¬ d (nI (31 + g)).toNatClampNeg = 0 by rw [c31, e4, hd]; decide), ad41, if_pos i41]
    unfold f_L_law_b298
    rw [if_pos (show b2i (opn g) = d (nI (41 + g)).toNatClampNeg by rw [c41, e5]), ad31, if_pos i31, if_pos (show d (nI (31 + g)).toNatClampNeg = 1 by rw [c31, e4, hd]; rfl)]
    have last : ∀ z : Int32, z = b2i op → GO K cg cdoors cshafts cone ctwo clen cdr csize ckinds G one two len dor dr kind M T v6 (f_L_law_b330 K n xs g1 g2 g3 g4 g5 g6 g7 g8 cg cdoors cshafts cone ctwo clen cdr cbr' ch' ci' cn' cs' csize ckinds o' (b2i moon) cout cgone cgas cplace x1 x2 x3 x4 x5 x6 x7 d p t (41 + nI g) z v6) := by
      rintro z rfl
      unfold f_L_law_b330 f_L_law_b331
      rw [ad41, if_pos i41, c41]
      exact go758 (opn := fun k => if k = g then op else opn k) ⟨s1, s2, ho', rfl, hA', hS1, s7, s8.door hG.2 hg op, s9, s10⟩ (by omega) K v6
    cases op
    · rw [if_pos (show b2i false = 0 from rfl)]
      exact last 0 rfl
    · rw [if_neg (show ¬ b2i true = 0 by decide)]
      exact last 1 rfl
theorem go_smoke (hS : ST cg cdoors cshafts cone ctwo clen cdr cbr ch ci csm csize ckinds copen cmoon cout cgone cgas cplace d p G one two len dor dr opn moon gas kind place outx M T) (hT : T ≤ T0 + 60) (K : KT) (v6 v7 : Int32) : GO K cg cdoors cshafts cone ctwo clen cdr csize ckinds G one two len dor dr kind M T0 v6 (f_L_law_b375 K n xs g1 g2 g3 g4 g5 g6 g7 g8 cg cdoors cshafts cone ctwo clen cdr cbr ch ci cn csm csize ckinds copen cmoon cout cgone cgas cplace x1 x2 x3 x4 x5 x6 x7 d p t v6 v7) := by
  have hS' := hS
  obtain ⟨s1, s2, s3, s4, s5, s6, s7, s8, s9, s10⟩ := hS
  obtain ⟨f, f1, f2⟩ := at_e (v7 >>> (12 &&& 31)) (m := 7) (by decide) (by decide)
  have f2' : f_L_at (v7 >>> (12 &&& 31)) 7 = some (nI f) := f2
  unfold f_L_law_b375
  rw [f2', bnd_e, L_smoke_e s1 s8 s2 s5 s6 f1, bnd_e, if_neg (by decide)]
  exact go758 hS' hT K v6
end TURN
