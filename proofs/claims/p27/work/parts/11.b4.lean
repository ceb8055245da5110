/-! air, as the class blows it -/
def lowr : Option Nat → Option Nat → Nat → Nat → Option Nat
  | some x, some y, a, b => if x = y then none else if x < y then some a else some b
  | _, _, _, _ => none
noncomputable def flw (G : Nat) (one two : Nat → Nat) (opn : Nat → Bool) (moon : Bool) (dr : Nat → Nat) (g : Nat) : Option Nat :=
  if opn g = true then lowr (hgt G one two opn moon dr (one g)) (hgt G one two opn moon dr (two g)) (one g) (two g) else none
def brt (G : Nat) (one two : Nat → Nat) (fl : Nat → Option Nat) (k : Nat) : Prop := ∃ g, g < G ∧ fl g ≠ none ∧ (one g = k ∨ two g = k)
/-- the air as the class holds it -/
def AO (cbr : Int32) (ch ci : A32) (G : Nat) (one two : Nat → Nat) (opn : Nat → Bool) (moon : Bool) (dr : Nat → Nat) : Prop :=
  (∀ k, k < 7 → ch k = hI (hgt G one two opn moon dr k)) ∧ (∀ g, g < G → ci g = hI (flw G one two opn moon dr g)) ∧ ∀ v, v < 32 → (bt cbr v = true ↔ brt G one two (flw G one two opn moon dr) v)
theorem hgt_lt {G : Nat} {one two dr : Nat → Nat} {opn : Nat → Bool} {moon : Bool} {k x : Nat} (hd : ∀ k, k < 7 → dr k ≤ 10) (h : hgt G one two opn moon dr k = some x) : x ≤ 840 := by
  unfold hgt at h
  split at h
  · cases h
  · cases h
    refine Nat.le_trans (Nat.div_le_self _ _) ?_
    refine fb_sm_bound (c := 120) (fun q hq => ?_)
    split
    · exact sh_le (hd q hq)
    · omega
theorem hgt_lt' {G : Nat} {one two dr : Nat → Nat} {opn : Nat → Bool} {moon : Bool} {k x : Nat} (hd : ∀ k, k < 7 → dr k ≤ 10) (h : hgt G one two opn moon dr k = some x) : x < 2 ^ 30 := by
  have := hgt_lt hd h
  omega
theorem hI_nn {h : Option Nat} (hb : ∀ x, h = some x → x < 2 ^ 30) : hI h = -1 ↔ h = none := by
  cases h with
  | none => simp [hI]
  | some x =>
    have := hb x rfl
    simp only [hI, nI_nm1 (i := x) (by omega)]
    simp
theorem hI_inj {h h' : Option Nat} (hb : ∀ x, h = some x → x < 2 ^ 30) (hb' : ∀ x, h' = some x → x < 2 ^ 30) : hI h = hI h' ↔ h = h' := by
  cases h with
  | none => rw [show hI none = (-1 : Int32) from rfl, eq_comm, hI_nn hb', eq_comm]
  | some x =>
    cases h' with
    | none => rw [show hI none = (-1 : Int32) from rfl, hI_nn hb]
    | some y =>
      have h1 := hb x rfl
      have h2 := hb' y rfl
      simp only [hI]
      rw [nI_eq (by omega) (by omega)]
      simp
section AIR
variable {cg cdoors cshafts : Int32} {cone ctwo clen cdr : A32} {G : Nat} {one two len dr : Nat → Nat} {dor opn : Nat → Bool} {moon : Bool}
theorem wf_ends (hw : WF G one two len dr) : ∀ g, g < G → one g < 7 ∧ two g < 7 := fun g hg => ⟨(hw.2.1 g hg).1, (hw.2.1 g hg).2.1⟩
theorem wf_shaft (hw : WF G one two len dr) : ∃ q, q < 7 ∧ sft dr q = true := fb_ct_pos.mp (Nat.lt_of_lt_of_le (by decide) hw.2.2.2)
theorem near_e (hM : MA cg cdoors cshafts cone ctwo clen cdr G one two len dor dr) (hw : WF G one two len dr) {vo : Int32} (hvo : ∀ g, g < G → bt vo g = opn g) (cn0 : A32) :
    ∃ cn, f_X0_findNearest cn0 cg cshafts cone ctwo vo = some cn ∧ ∀ k v, k < 7 → v < 32 → bt (cn k) v = (decide (v < 7) && nst G one two opn dr k v) := by
  obtain ⟨c1, h1, e1⟩ := lp (fun fu (s : A32) i => f_X0_findNearest_b2 cg cshafts cone ctwo vo fu s (nI i)) 7
    (fun i s => ∀ k v, k < i → v < 32 → bt (s k) v = (bt cshafts v && decide (v = k)))
    (fun s => f_X0_findNearest_b38 cg cone ctwo vo FU s cshafts 1) (by
      intro fu i s hi hs
      refine ⟨upd s i (cshafts &&& (1 <<< (nI i &&& 31))), ?_, ?_⟩
      · intro k v hk hv
        rw [upd_e]
        by_cases q : k = i
        · subst q; rw [if_pos rfl, b_and, one_shl (by omega) hv]
        · rw [if_neg q]; exact hs k v (by omega) hv
      · simp (disch := omega) only [f_X0_findNearest_b2, le7F, if_false, set_e, bnd_e, nam_e, nI_1]) (by
      intro fu s _
      simp (disch := omega) only [f_X0_findNearest_b2, le7T, if_true]) (i := 0) (k := 7) (fu := FU) (s := cn0) rfl (FU_lt (by decide)) (fun k v h _ => absurd h (Nat.not_lt_zero k))
  unfold f_X0_findNearest
  rw [show f_X0_findNearest_b2 cg cshafts cone ctwo vo FU cn0 0 = f_X0_findNearest_b2 cg cshafts cone ctwo vo FU cn0 (nI 0) from rfl, e1]
  have hends := wf_ends hw
  have hsh := hM.2.2.2
  refine lpP (fun fu (s : A32 × Int32) i => f_X0_findNearest_b38 cg cone ctwo vo fu s.1 s.2 (nI i)) 7
    (fun i s => 1 ≤ i ∧ (∀ k, k < 7 → (bt s.2 k = true ↔ Hit G one two opn (sft dr) (i - 1) k)) ∧ (∀ v, 7 ≤ v → v < 32 → bt s.2 v = false) ∧ ∀ k v, k < 7 → v < 32 → (bt (s.1 k) v = true ↔ v < 7 ∧ NstR G one two opn (sft dr) (i - 1) k v))
    (fun r => ∃ cn, r = some cn ∧ ∀ k v, k < 7 → v < 32 → bt (cn k) v = (decide (v < 7) && nst G one two opn dr k v)) ?_ ?_ 6 1 (c1, cshafts) FU rfl (FU_lt (by decide)) ?_
  · rintro fu i ⟨n0, reached⟩ hi ⟨hi1, hr1, hr2, hn⟩
    try dsimp only at hr1 hr2 hn
    obtain ⟨r, rfl⟩ : ∃ r, i = r + 1 := ⟨i - 1, by omega⟩
    rw [Nat.add_sub_cancel] at hr1 hn
    obtain ⟨s, g1, g2, e⟩ := near_r hM hw hvo (f_X0_findNearest_b38 cg cone ctwo vo fu) reached (nI (r + 1)) n0
    have eq : f_X0_findNearest_b38 cg cone ctwo vo (fu + 1) n0 reached (nI (r + 1)) = (if s.2 = 0 then some s.1 else f_X0_findNearest_b38 cg cone ctwo vo fu s.1 (reached ||| s.2) (nI (r + 2))) := by
      simp (disch := omega) only [f_X0_findNearest_b38, le7F, if_false]
      rw [e, nI_1]
    have hrf : ∀ k, k < 7 → (bt reached k = false ↔ ¬ Hit G one two opn (sft dr) r k) := fun k hk => by
      rw [← hr1 k hk]; cases bt reached k <;> simp
    have hfresh : ∀ k, k < 7 → (bt s.2 k = true ↔ ¬ Hit G one two opn (sft dr) r k ∧ Hit G one two opn (sft dr) (r + 1) k) := by
      intro k hk
      rw [g2 k (by omega)]
      constructor
      · rintro ⟨u, a1, a2, a3⟩
        have hu := (a1.lt hends).1
        exact ⟨(hrf k hk).mp a3, hit_left.mpr (Or.inr ⟨u, a1.symm, (hr1 u hu).mp a2⟩)⟩
      · rintro ⟨a1, a2⟩
        rcases hit_left.mp a2 with a3 | ⟨u, a3, a4⟩
        · exact absurd a3 a1
        · exact ⟨u, a3.symm, (hr1 u (a3.lt hends).2).mpr a4, (hrf k hk).mpr a1⟩
    try dsimp only
    rw [eq]
    by_cases h0 : s.2 = 0
    · refine Or.inr ?_
      rw [if_pos h0]
      refine ⟨s.1, rfl, fun k v hk hv => bool_ext ?_⟩
      have hst : ∀ k, k < 7 → Hit G one two opn (sft dr) (r + 1) k → Hit G one two opn (sft dr) r k := fun k hk hh => Classical.byContradiction fun hx => by
        have := (hfresh k hk).mpr ⟨hx, hh⟩
        rw [h0, b_0] at this
        cases this
      rw [g1 k v hk hv, Bool.and_eq_true, decide_eq_true_eq]
      have hno : ¬ (bt reached k = false ∧ ∃ u, Adj G one two opn u k ∧ bt reached u = true ∧ bt (n0 u) v = true) := by
        rintro ⟨a1, u, a2, a3, -⟩
        have := (g2 k (by omega)).mpr ⟨u, a2, a3, a1⟩
        rw [h0, b_0] at this
        cases this
      rw [or_iff_left hno, hn k v hk hv]
      refine and_congr_right fun hv7 => ?_
      unfold nst
      rw [dcd_t, nst_R hv7 (fun t hh => hit_stable hends hst t k hk hh)]
    · refine Or.inl ?_
      rw [if_neg h0]
      refine ⟨(s.1, reached ||| s.2), ⟨by omega, ?_, ?_, ?_⟩, rfl⟩
      · intro k hk
        try dsimp only
        rw [b_or, Bool.or_eq_true, hr1 k hk, hfresh k hk, show r + 1 + 1 - 1 = r + 1 from rfl]
        constructor
        · rintro (a | a)
          · exact a.le (by omega)
          · exact a.2
        · intro a
          by_cases q : Hit G one two opn (sft dr) r k
          · exact Or.inl q
          · exact Or.inr ⟨q, a⟩
      · intro v h7 hv
        try dsimp only
        rw [b_or, hr2 v h7 hv, Bool.false_or]
        cases hb : bt s.2 v
        · rfl
        · obtain ⟨u, a1, -⟩ := (g2 v hv).mp hb
          have := (a1.lt hends).2
          omega
      · intro k v hk hv
        try dsimp only
        rw [g1 k v hk hv, show r + 1 + 1 - 1 = r + 1 from rfl]
        by_cases hv7 : v < 7
        · by_cases q : Hit G one two opn (sft dr) r k
          · have qt := (hr1 k hk).mpr q
            rw [nstR_old q, hn k v hk hv, qt]
            simp
          · have hno : ¬ NstR G one two opn (sft dr) r k v := fun hx => q (nstR_hit hv7 hx)
            rw [hn k v hk hv, nstR_new hv7 q]
            have qf := (hrf k hk).mpr q
            constructor
            · rintro (⟨-, a⟩ | ⟨-, u, a1, a2, a3⟩)
              · exact absurd a hno
              · have hu := (a1.lt hends).1
                exact ⟨hv7, u, a1.symm, (hr1 u hu).mp a2, ((hn u v hu hv).mp a3).2⟩
            · rintro ⟨-, u, a1, a2, a3⟩
              have hu := (a1.lt hends).2
              exact Or.inr ⟨qf, u, a1.symm, (hr1 u hu).mpr a2, (hn u v hu hv).mpr ⟨hv7, a3⟩⟩
        · constructor
          · rintro (a | ⟨-, u, a1, -, a3⟩)
            · exact absurd ((hn k v hk hv).mp a).1 hv7
            · exact absurd ((hn u v (a1.lt hends).1 hv).mp a3).1 hv7
          · rintro ⟨a, -⟩
            exact absurd a hv7
  · rintro fu ⟨n0, reached⟩ ⟨hi1, hr1, hr2, hn⟩
    try dsimp only at hr1 hr2 hn
    refine ⟨n0, ?_, fun k v hk hv => bool_ext ?_⟩
    · simp (disch := omega) only [f_X0_findNearest_b38, le7T, if_true]
    · rw [hn k v hk hv, Bool.and_eq_true, decide_eq_true_eq]
      refine and_congr_right fun hv7 => ?_
      unfold nst
      rw [dcd_t, nst_R hv7 (fun t hh => hit_6 hends (wf_shaft hw) t k hk hh)]
  · refine ⟨Nat.le_refl _, ?_, ?_, ?_⟩
    · intro k hk
      try dsimp only
      rw [hsh k (by omega), hit_0 hk]
      simp [hk]
    · intro v h7 hv
      try dsimp only
      rw [hsh v hv, decide_eq_false (by omega)]
      rfl
    · intro k v hk hv
      try dsimp only
      rw [h1 k v hk hv, hsh v hv, nstR_0]
      simp only [Bool.and_eq_true, decide_eq_true_eq]
      constructor
      · rintro ⟨⟨a1, a2⟩, a3⟩
        exact ⟨a1, a3, a2⟩
      · rintro ⟨a1, a3, a2⟩
        exact ⟨⟨a1, a2⟩, a3⟩
theorem lower_e {ch : A32} {a b : Nat} {h1 h2 : Option Nat} (ha : a < 7) (hb : b < 7) (e1 : ch a = hI h1) (e2 : ch b = hI h2) (b1 : ∀ x, h1 = some x → x < 2 ^ 30) (b2 : ∀ x, h2 = some x → x < 2 ^ 30) : f_X0_lower ch (nI a) (nI b) = some (hI (lowr h1 h2 a b)) := by
  unfold f_X0_lower
  rw [get_e ch ha (by decide), get_e ch hb (by decide), bnd_e, bnd_e, e1, e2]
  cases h1 with
  | none =>
    by_cases q : hI none = hI h2
    · rw [if_pos q]; rfl
    · rw [if_neg q, if_pos (show hI none = -1 from rfl)]; rfl
  | some x =>
    have c1 := b1 x rfl
    cases h2 with
    | none =>
      rw [if_neg (by rw [hI_inj b1 b2]; simp), if_neg (by rw [hI_nn b1]; simp), if_pos (show hI none = -1 from rfl)]
      rfl
    | some y =>
      have c2 := b2 y rfl
      rw [if_neg (c := hI (some x) = -1) (by rw [hI_nn b1]; simp), if_neg (c := hI (some y) = -1) (by rw [hI_nn b2]; simp)]
      have e1 : hI (some x) = hI (some y) ↔ x = y := by rw [hI_inj b1 b2]; simp
      have e2 : hI (some y) ≤ hI (some x) ↔ y ≤ x := nI_leI (by omega) (by omega)
      rw [show lowr (some x) (some y) a b = (if x = y then none else if x < y then some a else some b) from rfl]
      by_cases q : x = y
      · rw [if_pos (e1.mpr q), if_pos q]; rfl
      · rw [if_neg (fun h => q (e1.mp h)), if_neg q]
        by_cases q2 : x < y
        · rw [if_neg (fun h => by have := e2.mp h; omega), if_pos q2]; rfl
        · rw [if_pos (e2.mpr (by omega)), if_neg q2]; rfl
theorem lowr_lt {h1 h2 : Option Nat} {a b x : Nat} (ha : a < 7) (hb : b < 7) (h : lowr h1 h2 a b = some x) : x < 7 := by
  cases h1 with
  | none => cases h
  | some y =>
    cases h2 with
    | none => cases h
    | some z =>
      simp only [lowr] at h
      split at h
      · cases h
      · split at h <;> cases h <;> assumption
theorem flw_lt (hw : WF G one two len dr) {g x : Nat} (hg : g < G) (h : flw G one two opn moon dr g = some x) : x < 7 := by
  unfold flw at h
  split at h
  · exact lowr_lt (wf_ends hw g hg).1 (wf_ends hw g hg).2 h
  · cases h
theorem flows_e (hM : MA cg cdoors cshafts cone ctwo clen cdr G one two len dor dr) (hw : WF G one two len dr) {vo : Int32} (hvo : ∀ g, g < G → bt vo g = opn g) {ch : A32} (hch : ∀ k, k < 7 → ch k = hI (hgt G one two opn moon dr k)) (cbr0 : Int32) (ci0 : A32) :
    ∃ cbr ci, f_X0_findFlows cbr0 ch ci0 cg cone ctwo vo = some (cbr, ci) ∧ AO cbr ch ci G one two opn moon dr := by
  have hG := hw.1
  have e0 := hM.1
  obtain ⟨⟨cbr, ci⟩, ⟨h1, h2⟩, e⟩ := lp (fun fu (s : Int32 × A32) i => f_X0_findFlows_b7 ch cg cone ctwo vo fu s.1 s.2 (nI i)) G
    (fun i s => (∀ g, g < i → s.2 g = hI (flw G one two opn moon dr g)) ∧ ∀ v, v < 32 → (bt s.1 v = true ↔ ∃ g, g < i ∧ flw G one two opn moon dr g ≠ none ∧ (one g = v ∨ two g = v)))
    (fun s => some s) (by
      rintro fu i ⟨br, ci⟩ hi ⟨hs1, hs2⟩
      try dsimp only at hs1 hs2
      obtain ⟨m1, m2, m3, m4⟩ := hM.2.1 i hi
      obtain ⟨w1, w2, w3, -, -⟩ := hw.2.1 i hi
      have e3 := hvo i hi
      have hl := lower_e w1 w2 (hch _ w1) (hch _ w2) (fun x h => hgt_lt' hw.2.2.1 h) (fun x h => hgt_lt' hw.2.2.1 h)
      have hx : ∀ x, flw G one two opn moon dr i = some x → x ≤ 840 := fun x h => by have := flw_lt hw hi h; omega
      have hrow : ∀ g, g < i + 1 → upd ci i (hI (flw G one two opn moon dr i)) g = hI (flw G one two opn moon dr g) := by
        intro g hg
        rw [upd_e]
        by_cases q : g = i
        · subst q; rw [if_pos rfl]
        · rw [if_neg q]; exact hs1 g (by omega)
      have e56 : f_X0_findFlows_b7 ch cg cone ctwo vo (fu + 1) br ci (nI i) = f_X0_findFlows_b56 (f_X0_findFlows_b7 ch cg cone ctwo vo fu) br ch ci cg cone ctwo (hI (flw G one two opn moon dr i)) vo (nI i) (nI (one i)) (nI (two i)) := by
        cases ho : opn i
        · have h01 : ((0 : Int32) = 1) = False := eq_false (by decide)
          simp (disch := omega) only [f_X0_findFlows_b7, e0, leF, if_false, get_e, bnd_e, m1, m2, fbit_e, e3, ho, b2i_f, h01]
          rw [show flw G one two opn moon dr i = none from if_neg (by rw [ho]; decide)]
          rfl
        · simp (disch := omega) only [f_X0_findFlows_b7, e0, leF, if_false, get_e, bnd_e, m1, m2, fbit_e, e3, ho, b2i_t, if_true, hl]
          rw [show flw G one two opn moon dr i = lowr (hgt G one two opn moon dr (one i)) (hgt G one two opn moon dr (two i)) (one i) (two i) from if_pos ho]
      try dsimp only
      rw [e56]
      cases hf : flw G one two opn moon dr i with
      | none =>
        refine ⟨(br, upd ci i (hI none)), ⟨fun g hg => by rw [← hf]; exact hrow g hg, fun v hv => ?_⟩, ?_⟩
        · rw [hs2 v hv]
          exact ⟨fun ⟨g, a1, a2, a3⟩ => ⟨g, by omega, a2, a3⟩, fun ⟨g, a1, a2, a3⟩ => ⟨g, by
            rcases Nat.lt_or_ge g i with q | q
            · exact q
            · have : g = i := by omega
              subst this
              exact absurd hf a2, a2, a3⟩⟩
        · simp (disch := omega) only [f_X0_findFlows_b56, f_X0_findFlows_b92, set_e, bnd_e, hI, if_true, nam_e, nI_1]
      | some x =>
        have hx7 := flw_lt hw hi hf
        refine ⟨(br ||| ((1 <<< (nI (one i) &&& 31)) ||| (1 <<< (nI (two i) &&& 31))), upd ci i (hI (some x))), ⟨fun g hg => by rw [← hf]; exact hrow g hg, fun v hv => ?_⟩, ?_⟩
        · rw [b_or, b_or, one_shl (by omega) hv, one_shl (by omega) hv, Bool.or_eq_true, Bool.or_eq_true, decide_eq_true_eq, decide_eq_true_eq, hs2 v hv]
          constructor
          · rintro (⟨g, a1, a2, a3⟩ | a)
            · exact ⟨g, by omega, a2, a3⟩
            · exact ⟨i, by omega, by rw [hf]; simp, a.elim (fun q => Or.inl q.symm) (fun q => Or.inr q.symm)⟩
          · rintro ⟨g, a1, a2, a3⟩
            rcases Nat.lt_or_ge g i with q | q
            · exact Or.inl ⟨g, q, a2, a3⟩
            · have : g = i := by omega
              subst this
              exact Or.inr (a3.elim (fun q => Or.inl q.symm) (fun q => Or.inr q.symm))
        · simp (disch := omega) only [f_X0_findFlows_b56, f_X0_findFlows_b92, set_e, bnd_e, hI, nI_nm1, if_false, nam_e, nI_1]) (by
      rintro fu ⟨br, ci⟩ -
      simp (disch := omega) only [f_X0_findFlows_b7, e0, leT, if_true]) (i := 0) (k := G) (fu := FU) (s := (0, ci0)) (by omega) (FU_lt (by omega)) (by
      constructor
      · intro g hg
        exact absurd hg (Nat.not_lt_zero g)
      · intro v hv
        simp [b_0])
  refine ⟨cbr, ci, ?_, hch, h1, h2⟩
  unfold f_X0_findFlows
  exact e
theorem blow_e (hM : MA cg cdoors cshafts cone ctwo clen cdr G one two len dor dr) (hw : WF G one two len dr) {vo : Int32} (hvo : ∀ g, g < G → bt vo g = opn g) (cbr0 : Int32) (ch0 ci0 cn0 : A32) :
    ∃ cbr ch ci cn, f_X0_blow cbr0 ch0 ci0 cn0 cg cshafts cone ctwo cdr vo (b2i moon) = some (cbr, ch, ci, cn) ∧ AO cbr ch ci G one two opn moon dr := by
  obtain ⟨cn, en, hn⟩ := near_e hM hw hvo cn0
  obtain ⟨ch, hch, e⟩ := lp (fun fu (s : A32) i => f_X0_blow_b9 cbr0 ci0 cn cg cone ctwo cdr vo (b2i moon) fu s (nI i)) 7
    (fun i s => ∀ k, k < i → s k = hI (hgt G one two opn moon dr k))
    (fun s => Option.bind (f_X0_findFlows cbr0 s ci0 cg cone ctwo vo) fun z => some (z.1, s, z.2, cn)) (by
      intro fu i s hi hs
      refine ⟨upd s i (hI (hgt G one two opn moon dr i)), ?_, ?_⟩
      · intro k hk
        rw [upd_e]
        by_cases q : k = i
        · subst q; rw [if_pos rfl]
        · rw [if_neg q]; exact hs k (by omega)
      · have hh := hO_e (moon := moon) hM hw (fun v hv => hn i v hi hv)
        simp (disch := omega) only [f_X0_blow_b9, le7F, if_false, get_e, bnd_e, hh, set_e, nam_e, nI_1]) (by
      intro fu s _
      simp (disch := omega) only [f_X0_blow_b9, le7T, if_true]) (i := 0) (k := 7) (fu := FU) (s := ch0) rfl (FU_lt (by decide)) (fun k h => absurd h (Nat.not_lt_zero k))
  obtain ⟨cbr, ci, ef, ha⟩ := flows_e hM hw hvo hch cbr0 ci0
  refine ⟨cbr, ch, ci, cn, ?_, ha⟩
  unfold f_X0_blow
  rw [en, bnd_e]
  rw [show f_X0_blow_b9 cbr0 ci0 cn cg cone ctwo cdr vo (b2i moon) FU ch0 0 = f_X0_blow_b9 cbr0 ci0 cn cg cone ctwo cdr vo (b2i moon) FU ch0 (nI 0) from rfl, e, ef, bnd_e]
end AIR
