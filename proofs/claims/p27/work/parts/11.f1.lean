/-! the class's calls that change things -/
section CLS
variable {cg cdoors cshafts : Int32} {cone ctwo clen cdr : A32} {csize cout cgone : Int32} {ckinds cplace cgas : A32} {G : Nat} {one two len dr : Nat → Nat} {dor opn : Nat → Bool} {moon : Bool} {gas kind place : Nat → Nat} {outx : Int32} {M T : Nat}
theorem wind_e (hM : MA cg cdoors cshafts cone ctwo clen cdr G one two len dor dr) (hw : WF G one two len dr) {vo : Int32} (hvo : ∀ g, g < G → bt vo g = opn g) (cbr0 : Int32) (ch0 ci0 cn0 cs0 : A32) :
    ∃ cbr ch ci cn cs, f_X10_windChanges cg cshafts cone ctwo clen cdr cbr0 ch0 ci0 cn0 cs0 vo (b2i moon) = some (cbr, ch, ci, cn, cs) ∧ AO cbr ch ci G one two opn moon dr ∧ SO cs G one two len (flw G one two opn moon dr) := by
  obtain ⟨cbr, ch, ci, cn, e1, hA⟩ := blow_e (moon := moon) hM hw hvo cbr0 ch0 ci0 cn0
  obtain ⟨cs, e2, hS⟩ := carry_e (fl := flw G one two opn moon dr) hM hw (fun g x hg h => (flw_low hw hg h).1) hA.2.1 cs0
  refine ⟨cbr, ch, ci, cn, cs, ?_, hA, hS⟩
  unfold f_X10_windChanges
  rw [e1, bnd_e]
  try dsimp only
  rw [e2, bnd_e]
theorem door_n (hM : MA cg cdoors cshafts cone ctwo clen cdr G one two len dor dr) (hw : WF G one two len dr) {g : Nat} (hg : g < G) (hd : dor g = false) (cbr0 : Int32) (ch0 ci0 cn0 cs0 : A32) (copen cmoon v2 : Int32) :
    f_X10_door cg cdoors cshafts cone ctwo clen cdr cbr0 ch0 ci0 cn0 cs0 copen cmoon (nI g) v2 = some (-103, cbr0, ch0, ci0, cn0, cs0, copen) := by
  have hG := hw.1
  obtain ⟨m1, m2, m3, m4⟩ := hM.2.1 g hg
  unfold f_X10_door
  rw [hM.1, hasG_e hG.2 hg, bnd_e, if_neg (by decide), fbit_e _ (by omega), bnd_e, m4, hd, b2i_f, if_pos rfl]
theorem door_y (hM : MA cg cdoors cshafts cone ctwo clen cdr G one two len dor dr) (hw : WF G one two len dr) {copen : Int32} (ho : ∀ g, g < G → bt copen g = opn g) {g : Nat} (hg : g < G) (hd : dor g = true) (cbr0 : Int32) (ch0 ci0 cn0 cs0 : A32) (op : Bool) :
    ∃ cbr ch ci cn cs o', f_X10_door cg cdoors cshafts cone ctwo clen cdr cbr0 ch0 ci0 cn0 cs0 copen (b2i moon) (nI g) (b2i op) = some (b2i (opn g), cbr, ch, ci, cn, cs, o') ∧ (∀ k, k < G → bt o' k = (fun k => if k = g then op else opn k) k) ∧ AO cbr ch ci G one two (fun k => if k = g then op else opn k) moon dr ∧ SO cs G one two len (flw G one two (fun k => if k = g then op else opn k) moon dr) := by
  have hG := hw.1
  obtain ⟨m1, m2, m3, m4⟩ := hM.2.1 g hg
  cases op
  · have hb : ∀ k, k < G → bt (copen &&& ((1 <<< (nI g &&& 31)) ^^^ (-1))) k = (if k = g then false else opn k) := by
      intro k hk
      rw [b_and, b_xor, one_shl (by omega) (by omega), b_m1 k (by omega), ho k hk]
      by_cases q : k = g
      · simp [q]
      · simp [q]
    obtain ⟨cbr, ch, ci, cn, cs, e, hA, hS⟩ := wind_e (opn := fun k => if k = g then false else opn k) (moon := moon) hM hw (vo := copen &&& ((1 <<< (nI g &&& 31)) ^^^ (-1))) hb cbr0 ch0 ci0 cn0 cs0
    refine ⟨cbr, ch, ci, cn, cs, _, ?_, hb, hA, hS⟩
    unfold f_X10_door f_X10_door_b78
    rw [show f_X5_hasGallery cg (nI g) = some 1 by rw [hM.1]; exact hasG_e hG.2 hg, bnd_e, if_neg (by decide), fbit_e _ (by omega), bnd_e, m4, hd, b2i_t, if_neg (by decide), fbit_e _ (by omega), bnd_e, b2i_f, if_pos rfl, e, bnd_e, ho g hg]
  · have hb : ∀ k, k < G → bt (copen ||| (1 <<< (nI g &&& 31))) k = (if k = g then true else opn k) := by
      intro k hk
      rw [b_or, one_shl (by omega) (by omega), ho k hk]
      by_cases q : k = g
      · simp [q]
      · simp [q]
    obtain ⟨cbr, ch, ci, cn, cs, e, hA, hS⟩ := wind_e (opn := fun k => if k = g then true else opn k) (moon := moon) hM hw (vo := copen ||| (1 <<< (nI g &&& 31))) hb cbr0 ch0 ci0 cn0 cs0
    refine ⟨cbr, ch, ci, cn, cs, _, ?_, hb, hA, hS⟩
    unfold f_X10_door f_X10_door_b78
    rw [show f_X5_hasGallery cg (nI g) = some 1 by rw [hM.1]; exact hasG_e hG.2 hg, bnd_e, if_neg (by decide), fbit_e _ (by omega), bnd_e, m4, hd, b2i_t, if_neg (by decide), fbit_e _ (by omega), bnd_e, if_neg (by decide), e, bnd_e, ho g hg]
theorem turn_e (hM : MA cg cdoors cshafts cone ctwo clen cdr G one two len dor dr) (hw : WF G one two len dr) {copen : Int32} (ho : ∀ g, g < G → bt copen g = opn g) (cbr0 : Int32) (ch0 ci0 cn0 cs0 : A32) :
    ∃ cbr ch ci cn cs, f_X10_turn cg cshafts cone ctwo clen cdr cbr0 ch0 ci0 cn0 cs0 copen (b2i moon) = some (b2i (!moon), cbr, ch, ci, cn, cs, b2i (!moon)) ∧ AO cbr ch ci G one two opn (!moon) dr ∧ SO cs G one two len (flw G one two opn (!moon) dr) := by
  have hG := hw.1
  obtain ⟨cbr, ch, ci, cn, cs, e, hA, hS⟩ := wind_e (opn := opn) (moon := !moon) hM hw ho cbr0 ch0 ci0 cn0 cs0
  refine ⟨cbr, ch, ci, cn, cs, ?_, hA, hS⟩
  unfold f_X10_turn f_X10_turn_b32
  rw [show f_X5_isRead cg = some 1 by rw [hM.1]; exact isRead_e hG.1 hG.2, bnd_e, if_neg (by decide)]
  cases moon
  · rw [b2i_f, if_pos rfl, if_pos (Or.inr rfl), show (1 : Int32) = b2i (!false) from rfl, e, bnd_e, if_neg (by decide)]
  · rw [b2i_t, if_neg (by decide), if_pos (Or.inl rfl), show (0 : Int32) = b2i (!true) from rfl, e, bnd_e, if_pos rfl]
theorem man_e (hw : WF G one two len dr) {kd pl : Nat} (hk : kd < 5) (hp : pl < 7) (hM : M < 6) : f_X10_man (nI G) (nI M) ckinds cplace (nI kd) (nI pl) = some (nI M, nI (M + 1), upd ckinds M (nI kd), upd cplace M (nI pl)) := by
  have hG := hw.1
  have hki : f_X1_isKind (nI kd) = some 1 := by
    rcases (show kd = 0 ∨ kd = 1 ∨ kd = 2 ∨ kd = 3 ∨ kd = 4 by omega) with rfl | rfl | rfl | rfl | rfl <;> rfl
  unfold f_X10_man
  rw [isRead_e hG.1 hG.2, bnd_e, if_neg (by decide), hki, bnd_e, if_neg (by decide), isKnot_e hp, bnd_e, if_neg (by decide), if_pos (show nI M < 6 from nI_lt (b := 6) hM (by decide)), set_e _ _ hM (by decide), bnd_e, nam_e, set_e _ _ hM (by decide), bnd_e, nI_1]
theorem isOf_e (hM6 : M ≤ 6) (hk : ∀ m, m < M → ckinds m = nI (kind m)) (h5 : ∀ m, m < M → kind m < 5) {m as : Nat} (hm : m < M) (ha : as < 5) : f_X1_isOf ckinds (nI m) (nI as) = some (b2i (decide (as = 0 ∨ as = kind m ∨ (as = 1 ∧ kind m = 4)))) := by
  unfold f_X1_isOf f_X1_isOf_b28
  rw [get_e ckinds (by omega) (by decide), bnd_e, hk m hm]
  have h := h5 m hm
  rcases (show as = 0 ∨ as = 1 ∨ as = 2 ∨ as = 3 ∨ as = 4 by omega) with rfl | rfl | rfl | rfl | rfl <;>
    rcases (show kind m = 0 ∨ kind m = 1 ∨ kind m = 2 ∨ kind m = 3 ∨ kind m = 4 by omega) with q | q | q | q | q <;> rw [q] <;> rfl
theorem as_e (hM6 : M ≤ 6) (hk : ∀ m, m < M → ckinds m = nI (kind m)) (h5 : ∀ m, m < M → kind m < 5) {m as : Nat} (hm : m < M) (ha : as < 5) : f_X10_as (nI M) ckinds (nI m) (nI as) = some (if as = 0 ∨ as = kind m ∨ (as = 1 ∧ kind m = 4) then nI m else -1) := by
  have hki : f_X1_isKind (nI as) = some 1 := by
    rcases (show as = 0 ∨ as = 1 ∨ as = 2 ∨ as = 3 ∨ as = 4 by omega) with rfl | rfl | rfl | rfl | rfl <;> rfl
  unfold f_X10_as
  rw [has_e hM6 hm, bnd_e, if_neg (by decide), hki, bnd_e, if_neg (by decide), isOf_e hM6 hk h5 hm ha, bnd_e]
  by_cases q : as = 0 ∨ as = kind m ∨ (as = 1 ∧ kind m = 4)
  · rw [if_pos q, decide_eq_true q, b2i_t, if_neg (by decide)]
  · rw [if_neg q, decide_eq_false q, b2i_f, if_pos rfl]
theorem isAt_e (hM : MA cg cdoors cshafts cone ctwo clen cdr G one two len dor dr) (hw : WF G one two len dr) {g k : Nat} (hg : g < G) (hk : k < 7) : f_X5_isAt cone ctwo (nI g) (nI k) = some (b2i (decide (one g = k ∨ two g = k))) := by
  obtain ⟨m1, m2, m3, m4⟩ := hM.2.1 g hg
  obtain ⟨w1, w2, w3, -, -⟩ := hw.2.1 g hg
  have hG := hw.1
  unfold f_X5_isAt f_X5_isAt_b24
  rw [get_e cone (by omega) (by decide), get_e ctwo (by omega) (by decide), bnd_e, bnd_e, m1, m2, iteE (by omega) (by omega), iteE (by omega) (by omega)]
  by_cases q1 : one g = k
  · rw [if_pos q1, decide_eq_true (Or.inl q1)]; rfl
  · rw [if_neg q1]
    by_cases q2 : two g = k
    · rw [if_pos q2, decide_eq_true (Or.inr q2)]; rfl
    · rw [if_neg q2, decide_eq_false (fun h => h.elim q1 q2)]; rfl
theorem walk_e (hM : MA cg cdoors cshafts cone ctwo clen cdr G one two len dor dr) (hw : WF G one two len dr) {copen : Int32} (ho : ∀ g, g < G → bt copen g = opn g) (hC : CM csize ckinds cplace cgas cout cgone gas kind place outx M T) (hW : WM gas kind place outx M T) {m g : Nat} (hm : m < M) (hg : g < G) :
    f_X10_walk cg cone ctwo csize ckinds copen cout cplace (nI m) (nI g) = (if (one g = place m ∨ two g = place m) ∧ bt outx m = false ∧ (opn g = true ∨ kind m = 3) then some (nI (if one g = place m then two g else one g), upd cplace m (nI (if one g = place m then two g else one g))) else some (-103, cplace)) := by
  have hG := hw.1
  obtain ⟨c1, c2, c3, c4, c5⟩ := hC
  obtain ⟨hM6, hg9, hkp, hob, hT⟩ := hW
  obtain ⟨k1, k2⟩ := hkp m hm
  have b67 : f_X10_walk_b68 cone ctwo cout cplace 0 (nI m) (nI g) (nI (place m)) = (if (one g = place m ∨ two g = place m) ∧ bt outx m = false then some (nI (if one g = place m then two g else one g), upd cplace m (nI (if one g = place m then two g else one g))) else some (-103, cplace)) := by
    unfold f_X10_walk_b68
    rw [fbit_e _ (by omega), bnd_e, c4]
    cases hb : bt outx m
    · rw [b2i_f, if_neg (by decide), isAt_e hM hw hg k2, bnd_e]
      by_cases q : one g = place m ∨ two g = place m
      · rw [decide_eq_true q, b2i_t, if_neg (by decide), if_pos rfl, oth_e hM hw hg k2, bnd_e, set_e _ _ (by omega) (by decide), bnd_e, if_pos (show (one g = place m ∨ two g = place m) ∧ false = false from ⟨q, rfl⟩)]
      · rw [decide_eq_false q, b2i_f, if_pos rfl, if_neg (fun h : (one g = place m ∨ two g = place m) ∧ false = false => q h.1)]
    · rw [b2i_t, if_pos rfl, if_neg (fun h : (one g = place m ∨ two g = place m) ∧ true = false => by cases h.2)]
  have b68 : f_X10_walk_b68 cone ctwo cout cplace 1 (nI m) (nI g) (nI (place m)) = some (-103, cplace) := by
    unfold f_X10_walk_b68
    rw [fbit_e _ (by omega), bnd_e, c4]
    cases hb : bt outx m
    · rw [b2i_f, if_neg (by decide), isAt_e hM hw hg k2, bnd_e]
      by_cases q : one g = place m ∨ two g = place m
      · rw [decide_eq_true q, b2i_t, if_neg (by decide), if_neg (by decide)]
      · rw [decide_eq_false q, b2i_f, if_pos rfl]
    · rw [b2i_t, if_pos rfl]
  unfold f_X10_walk f_X10_walk_b67
  rw [c1, has_e hM6 hm, bnd_e, if_neg (by decide), hM.1, hasG_e hG.2 hg, bnd_e, if_neg (by decide), get_e cplace (by omega) (by decide), bnd_e, (c2 m hm).2, fbit_e _ (by omega), bnd_e, ho g hg]
  cases hop : opn g
  · rw [b2i_f, if_pos rfl, show (3 : Int32) = nI 3 from rfl, isOf_e hM6 (fun m hm => (c2 m hm).1) (fun m hm => (hkp m hm).1) hm (by decide), bnd_e]
    by_cases q : kind m = 3
    · rw [decide_eq_true (Or.inr (Or.inl q.symm)), b2i_t, if_neg (by decide), b67]
      simp only [q, or_true, and_true]
    · rw [decide_eq_false (by omega), b2i_f, if_pos rfl, b68]
      rw [if_neg (fun h : (one g = place m ∨ two g = place m) ∧ bt outx m = false ∧ (false = true ∨ kind m = 3) => h.2.2.elim (fun h => by cases h) q)]
  · rw [b2i_t, if_neg (by decide), b67]
    simp only [true_or, and_true]
end CLS
def gN (b : Nat → Bool) (gas : Nat → Nat) : Nat → Nat → Nat
  | 0 => gas
  | n + 1 => gas1 b (gN b gas n)
def oN (b : Nat → Bool) (gas kind place : Nat → Nat) (M : Nat) (o : Nat → Bool) : Nat → Nat → Bool
  | 0 => o
  | n + 1 => fun i => oN b gas kind place M o n i || (decide (i < M) && decide (brs (kind i) < gN b gas (n + 1) (place i)))
theorem gN_le {b : Nat → Bool} {gas : Nat → Nat} (h : ∀ k, k < 7 → gas k ≤ 9) : ∀ n k, k < 7 → gN b gas n k ≤ 9 := by
  intro n
  cases n with
  | zero => exact h
  | succ n => exact fun k _ => gas1_le
theorem oN_hi {b : Nat → Bool} {gas kind place : Nat → Nat} {M : Nat} {o : Nat → Bool} {i : Nat} (hi : M ≤ i) : ∀ n, oN b gas kind place M o n i = o i := by
  intro n
  induction n with
  | zero => rfl
  | succ n ih =>
    show (oN b gas kind place M o n i || _) = _
    rw [ih, decide_eq_false (by omega)]
    simp
theorem minutes_e {G : Nat} {one two len dr : Nat → Nat} (hw : WF G one two len dr) {br : Int32} {b : Nat → Bool} (hb : ∀ k, k < 7 → bt br k = b k) {csize cout cgone : Int32} {ckinds cplace cgas : A32} {gas kind place : Nat → Nat} {outx : Int32} {M T : Nat} (hC : CM csize ckinds cplace cgas cout cgone gas kind place outx M T) (hW : WM gas kind place outx M T) {many : Nat} (h1 : 1 ≤ many) (h2 : many ≤ 60) (hT : T + many < 100000) :
    ∃ out' cgas', f_X10_minutes (nI G) br csize ckinds cout cgone cgas cplace (nI many) = some (nI (fb_ct (bt out') 6) - nI (fb_ct (bt outx) 6), out', nI (T + many), cgas') ∧ (∀ k, k < 7 → cgas' k = nI (gN b gas many k)) ∧ ∀ i, i < 32 → bt out' i = oN b gas kind place M (bt outx) many i := by
  have hG := hw.1
  obtain ⟨c1, c2, c3, rfl, rfl⟩ := hC
  obtain ⟨hM6, hg9, hkp, hob, -⟩ := hW
  subst c1
  have bc : ∀ o : Int32, (∀ i, M ≤ i → i < 32 → bt o i = false) → f_J6_bitCount_0f7a4 o = some (nI (fb_ct (bt o) 6)) := fun o h => bc_n (by decide) (fun i hi hi2 => h i (by omega) hi2)
  obtain ⟨⟨o', t', g'⟩, ⟨r1, r2, r3⟩, e⟩ := lp (fun fu (s : Int32 × Int32 × A32) i => f_X10_minutes_b40 br (nI M) ckinds cplace (nI many) (nI (fb_ct (bt cout) 6)) fu s.1 s.2.1 s.2.2 (nI i)) many
    (fun i s => s.2.1 = nI (T + i) ∧ (∀ k, k < 7 → s.2.2 k = nI (gN b gas i k)) ∧ ∀ j, j < 32 → bt s.1 j = oN b gas kind place M (bt cout) i j)
    (fun s => some (nI (fb_ct (bt s.1) 6) - nI (fb_ct (bt cout) 6), s.1, s.2.1, s.2.2)) (by
      rintro fu i ⟨o, t, g⟩ hi ⟨s1, s2, s3⟩
      try dsimp only at s1 s2 s3
      subst s1
      obtain ⟨o1, g1, ep, q1, q2⟩ := pass_e (gas := gN b gas i) (kind := kind) (place := place) (out := o) (M := M) (T := T + i) (br := br) ⟨hM6, gN_le hg9 i, hkp, fun j hj hj2 => by rw [s3 j hj2, oN_hi hj, hob j hj hj2], by omega⟩ s2 (fun m hm => (c2 m hm).1) (fun m hm => (c2 m hm).2) hb
      refine ⟨(o1, nI (T + (i + 1)), g1), ⟨rfl, q1, fun j hj => ?_⟩, ?_⟩
      · rw [q2 j hj, s3 j hj]
        rfl
      · simp (disch := omega) only [f_X10_minutes_b40, leF, if_false, ep, bnd_e, nam_e, nI_1]
        rfl) (by
      rintro fu ⟨o, t, g⟩ ⟨s1, s2, s3⟩
      try dsimp only at s3
      have hbc := bc o (fun j hj hj2 => by rw [s3 j hj2, oN_hi hj, hob j hj hj2])
      simp (disch := omega) only [f_X10_minutes_b40, leT, if_true, hbc, bnd_e]) (i := 0) (k := many) (fu := FU) (s := (cout, nI T, cgas)) (by omega) (FU_lt (by omega)) ⟨rfl, c3, fun j _ => rfl⟩
  try dsimp only at r1 r2 r3 e
  subst r1
  refine ⟨o', g', ?_, r2, r3⟩
  unfold f_X10_minutes
  rw [if_neg (show ¬ nI many < 1 from nI_nlt (b := 1) h1 (by omega)), if_pos (show nI many ≤ 60 from nI_le (b := 60) h2 (by decide)), isRead_e hG.1 hG.2, bnd_e, if_neg (by decide), bc cout hob, bnd_e]
  exact e
