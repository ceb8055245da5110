/-! heights: as the class reckons them -/
def dI (n : Nat) : Int32 := if n = 0 then -1 else nI (n - 1)
/-- the plan as the class holds it -/
def MA (cg cdoors cshafts : Int32) (cone ctwo clen cdr : A32) (G : Nat) (one two len : Nat → Nat) (dor : Nat → Bool) (dr : Nat → Nat) : Prop :=
  cg = nI G ∧ (∀ g, g < G → cone g = nI (one g) ∧ ctwo g = nI (two g) ∧ clen g = nI (len g) ∧ bt cdoors g = dor g) ∧ (∀ k, k < 7 → cdr k = dI (dr k)) ∧ (∀ v, v < 32 → bt cshafts v = (decide (v < 7) && sft dr v))
theorem bt_lt {x : Int32} {n : Nat} (hn : n ≤ 31) (h : ∀ i, n ≤ i → i < 32 → bt x i = false) : ∃ m, m < 2 ^ n ∧ x = nI m := by
  refine ⟨x.toBitVec.toNat, Nat.lt_pow_two_of_testBit _ (fun i hi => ?_), Int32.toBitVec_inj.mp (by show _ = BitVec.ofNat 32 _; simp)⟩
  rcases Nat.lt_or_ge i 32 with q | q
  · exact h i hi q
  · exact b_big q
set_option maxRecDepth 100000 in
theorem bc_all : ∀ m, m < 1024 → f_J6_bitCount_0f7a4 (nI m) = some (nI (fb_ct (bt (nI m)) 10)) := by decide +kernel
theorem bc_e {x : Int32} (h : ∀ i, 10 ≤ i → i < 32 → bt x i = false) : f_J6_bitCount_0f7a4 x = some (nI (fb_ct (bt x) 10)) := by
  obtain ⟨m, hm, rfl⟩ := bt_lt (by decide) h
  exact bc_all m hm
theorem ct_cut {p : Nat → Bool} {m n : Nat} (hmn : m ≤ n) (h : ∀ i, m ≤ i → i < n → p i = false) : fb_ct p n = fb_ct p m := by
  have e := fb_ct_split p m (n - m)
  rw [Nat.add_sub_cancel' hmn] at e
  rw [e, fb_ct_zero.mpr (fun k hk => h (m + k) (by omega) (by omega))]
  rfl
theorem bc_n {x : Int32} {n : Nat} (hn : n ≤ 10) (h : ∀ i, n ≤ i → i < 32 → bt x i = false) : f_J6_bitCount_0f7a4 x = some (nI (fb_ct (bt x) n)) := by
  rw [bc_e (fun i h1 h2 => h i (by omega) h2), ct_cut hn (fun i h1 h2 => h i h1 (by omega))]
theorem dI_p {n : Nat} (h : 0 < n) : dI n = nI (n - 1) := if_neg (by omega)
theorem shH_e {cdr : A32} {dr : Nat → Nat} {moon : Bool} {q : Nat} (hq : q < 7) (hc : cdr q = dI (dr q)) (h1 : 0 < dr q) (h2 : dr q ≤ 10) : f_X5_shaftHeight cdr (nI q) (b2i moon) = some (nI (sh moon dr q)) := by
  unfold f_X5_shaftHeight f_X5_shaftHeight_b23 sh
  rw [get_e cdr hq (by decide), bnd_e, hc, dI_p h1]
  cases moon
  · rw [b2i_f, if_pos rfl, k12, pk_mul]; rfl
  · rw [b2i_t, if_neg (by decide), k9, pk_sub (by omega), k12, pk_mul]
    simp only [if_true]
    congr 3
    omega
section CH
variable {cg cdoors cshafts : Int32} {cone ctwo clen cdr : A32} {G : Nat} {one two len dr : Nat → Nat} {dor opn : Nat → Bool} {moon : Bool}
theorem hO_e (hM : MA cg cdoors cshafts cone ctwo clen cdr G one two len dor dr) (hw : WF G one two len dr) {x : Int32} {k : Nat} (hx : ∀ v, v < 32 → bt x v = (decide (v < 7) && nst G one two opn dr k v)) : f_X0_heightOf cdr x (b2i moon) = some (hI (hgt G one two opn moon dr k)) := by
  have hb : ∀ i, 7 ≤ i → i < 32 → bt x i = false := fun i h1 h2 => by rw [hx i h2, decide_eq_false (by omega)]; rfl
  have e7 : ∀ i, i < 7 → bt x i = nst G one two opn dr k i := fun i h1 => by rw [hx i (by omega), decide_eq_true h1]; rfl
  have ec : fb_ct (bt x) 7 = fb_ct (nst G one two opn dr k) 7 := fb_ct_cong e7
  have hl := fb_ct_le (bt x) 7
  unfold f_X0_heightOf hgt
  rw [bc_n (by decide) hb, bnd_e, ← ec]
  by_cases h0 : fb_ct (bt x) 7 = 0
  · rw [if_pos h0, h0]; rfl
  · rw [if_neg h0]
    simp (disch := omega) only [eq0F, if_false]
    obtain ⟨s', hs', e⟩ := lp (fun fu (s : Int32) i => f_X0_heightOf_b17 cdr x (b2i moon) (nI (fb_ct (bt x) 7)) fu s (nI i)) 7
      (fun i s => s = nI (fb_sm (fun q => if nst G one two opn dr k q then sh moon dr q else 0) i) ∧ fb_sm (fun q => if nst G one two opn dr k q then sh moon dr q else 0) i ≤ i * 120)
      (fun s => some (s / nI (fb_ct (bt x) 7))) (by
        rintro fu i s hi ⟨rfl, hs⟩
        have hd := hw.2.2.1 i hi
        have hc := hM.2.2.1 i hi
        by_cases hn : nst G one two opn dr k i = true
        · have hp : 0 < dr i := by
            obtain ⟨t, _, h3, _⟩ := dcd_t.mp hn
            exact of_decide_eq_true h3
          refine ⟨nI (fb_sm (fun q => if nst G one two opn dr k q then sh moon dr q else 0) i + sh moon dr i), ⟨?_, ?_⟩, ?_⟩
          · rw [fb_sm_succ]; simp only [hn, if_true]
          · rw [fb_sm_succ]; simp only [hn, if_true]
            have := sh_le (moon := moon) hd
            omega
          · simp (disch := omega) only [f_X0_heightOf_b17, f_X0_heightOf_b46, le7F, if_false, fbit_e, e7, hn, bnd_e, b2i_t, if_true, shH_e hi hc hp hd, nam_e, nI_add, nI_1]
        · refine ⟨nI (fb_sm (fun q => if nst G one two opn dr k q then sh moon dr q else 0) i), ⟨?_, ?_⟩, ?_⟩
          · rw [fb_sm_succ]; simp only [hn, if_false, Nat.add_zero, ftF, tfF]
          · rw [fb_sm_succ]; simp only [hn, if_false, Nat.add_zero, ftF, tfF]
            omega
          · have hf : nst G one two opn dr k i = false := by cases hh : nst G one two opn dr k i <;> simp_all
            have h01 : ((0 : Int32) = 1) = False := eq_false (by decide)
            simp (disch := omega) only [f_X0_heightOf_b17, f_X0_heightOf_b46, le7F, if_false, fbit_e, e7, hf, bnd_e, b2i_f, h01, nam_e, nI_1]) (by
        rintro fu s ⟨rfl, hs⟩
        simp (disch := omega) only [f_X0_heightOf_b17, le7T, if_true, eq0F, if_false]) (i := 0) (k := 7) (fu := FU) (s := 0) rfl (FU_lt (by decide)) ⟨rfl, Nat.le_refl _⟩
    rw [show f_X0_heightOf_b17 cdr x (b2i moon) (nI (fb_ct (bt x) 7)) FU 0 0 = f_X0_heightOf_b17 cdr x (b2i moon) (nI (fb_ct (bt x) 7)) FU 0 (nI 0) from rfl, e, hs'.1, pk_div (by omega) (by omega) (by omega)]
    rfl
/-- one gallery, one way -/
theorem spr_e {cn : A32} {reached : Int32} {f t : Nat} (hf : f < 7) (ht : t < 7) : f_X0_spread cn (nI f) (nI t) reached = some (if bt reached f = true ∧ bt reached t = false then (1 <<< (nI t &&& 31), upd cn t (cn t ||| cn f)) else (0, cn)) := by
  unfold f_X0_spread
  rw [fbit_e _ (by omega), bnd_e, fbit_e _ (by omega), get_e cn ht (by decide), get_e cn hf (by decide), bnd_e, bnd_e, bnd_e, set_e cn _ ht (by decide), bnd_e]
  cases h1 : bt reached f <;> cases h2 : bt reached t <;> simp [b2i]
/-- one round -/
theorem near_r (hM : MA cg cdoors cshafts cone ctwo clen cdr G one two len dor dr) (hw : WF G one two len dr) {vo : Int32} (hvo : ∀ g, g < G → bt vo g = opn g) (kk : A32 → Int32 → Int32 → Option A32) (reached : Int32) (r4 : Int32) (n0 : A32) :
    ∃ s : A32 × Int32, (∀ k v, k < 7 → v < 32 → (bt (s.1 k) v = true ↔ bt (n0 k) v = true ∨ (bt reached k = false ∧ ∃ u, Adj G one two opn u k ∧ bt reached u = true ∧ bt (n0 u) v = true))) ∧ (∀ v, v < 32 → (bt s.2 v = true ↔ ∃ u, Adj G one two opn u v ∧ bt reached u = true ∧ bt reached v = false)) ∧
      f_X0_findNearest_b51 kk cg cone ctwo vo reached r4 FU n0 0 0 = (if s.2 = 0 then some s.1 else kk s.1 (reached ||| s.2) (r4 + 1)) := by
  obtain ⟨s, ⟨h1, h2⟩, e⟩ := lp (fun fu (s : A32 × Int32) i => f_X0_findNearest_b51 kk cg cone ctwo vo reached r4 fu s.1 s.2 (nI i)) G
    (fun i s => (∀ k v, k < 7 → v < 32 → (bt (s.1 k) v = true ↔ bt (n0 k) v = true ∨ (bt reached k = false ∧ ∃ u, (∃ g, g < i ∧ opn g = true ∧ ((one g = u ∧ two g = k) ∨ (two g = u ∧ one g = k))) ∧ bt reached u = true ∧ bt (n0 u) v = true))) ∧ (∀ v, v < 32 → (bt s.2 v = true ↔ ∃ u, (∃ g, g < i ∧ opn g = true ∧ ((one g = u ∧ two g = v) ∨ (two g = u ∧ one g = v))) ∧ bt reached u = true ∧ bt reached v = false)))
    (fun s => if s.2 = 0 then some s.1 else kk s.1 (reached ||| s.2) (r4 + 1)) (by
      rintro fu i ⟨cn, fr⟩ hi ⟨hs1, hs2⟩
      try dsimp only at hs1 hs2
      obtain ⟨m1, m2, m3, m4⟩ := hM.2.1 i hi
      obtain ⟨w1, w2, w3, -, -⟩ := hw.2.1 i hi
      have hG := hw.1
      have e0 := hM.1
      have e3 := hvo i hi
      by_cases ho : opn i = true
      · -- open
        have key : ∀ s' : A32 × Int32, (∀ k v, k < 7 → v < 32 → (bt (s'.1 k) v = true ↔ bt (cn k) v = true ∨ (bt reached k = false ∧ ∃ u, ((one i = u ∧ two i = k) ∨ (two i = u ∧ one i = k)) ∧ bt reached u = true ∧ bt (n0 u) v = true))) → (∀ v, v < 32 → (bt s'.2 v = true ↔ bt fr v = true ∨ ∃ u, ((one i = u ∧ two i = v) ∨ (two i = u ∧ one i = v)) ∧ bt reached u = true ∧ bt reached v = false)) →
            (∀ k v, k < 7 → v < 32 → (bt (s'.1 k) v = true ↔ bt (n0 k) v = true ∨ (bt reached k = false ∧ ∃ u, (∃ g, g < i + 1 ∧ opn g = true ∧ ((one g = u ∧ two g = k) ∨ (two g = u ∧ one g = k))) ∧ bt reached u = true ∧ bt (n0 u) v = true))) ∧ (∀ v, v < 32 → (bt s'.2 v = true ↔ ∃ u, (∃ g, g < i + 1 ∧ opn g = true ∧ ((one g = u ∧ two g = v) ∨ (two g = u ∧ one g = v))) ∧ bt reached u = true ∧ bt reached v = false)) := by
          intro s' k1 k2
          constructor
          · intro k v hk hv
            rw [k1 k v hk hv, hs1 k v hk hv]
            constructor
            · rintro ((a | ⟨a1, u, ⟨g, b1, b2, b3⟩, b4⟩) | ⟨a1, u, b3, b4⟩)
              · exact Or.inl a
              · exact Or.inr ⟨a1, u, ⟨g, by omega, b2, b3⟩, b4⟩
              · exact Or.inr ⟨a1, u, ⟨i, by omega, ho, b3⟩, b4⟩
            · rintro (a | ⟨a1, u, ⟨g, b1, b2, b3⟩, b4⟩)
              · exact Or.inl (Or.inl a)
              · rcases Nat.lt_or_ge g i with q | q
                · exact Or.inl (Or.inr ⟨a1, u, ⟨g, q, b2, b3⟩, b4⟩)
                · have : g = i := by omega
                  subst this
                  exact Or.inr ⟨a1, u, b3, b4⟩
          · intro v hv
            rw [k2 v hv, hs2 v hv]
            constructor
            · rintro (⟨u, ⟨g, b1, b2, b3⟩, b4⟩ | ⟨u, b3, b4⟩)
              · exact ⟨u, ⟨g, by omega, b2, b3⟩, b4⟩
              · exact ⟨u, ⟨i, by omega, ho, b3⟩, b4⟩
            · rintro ⟨u, ⟨g, b1, b2, b3⟩, b4⟩
              rcases Nat.lt_or_ge g i with q | q
              · exact Or.inl ⟨u, ⟨g, q, b2, b3⟩, b4⟩
              · have : g = i := by omega
                subst this
                exact Or.inr ⟨u, b3, b4⟩
        have hold : ∀ k v, k < 7 → v < 32 → bt reached k = true → bt (cn k) v = bt (n0 k) v := by
          intro k v hk hv hr
          refine bool_ext ?_
          rw [hs1 k v hk hv, hr]
          simp
        cases r1 : bt reached (one i) <;> cases r2 : bt reached (two i)
        · refine ⟨(cn, fr), key _ ?_ ?_, ?_⟩
          · intro k v hk hv
            constructor
            · exact Or.inl
            · rintro (h | ⟨h1, u, (⟨rfl, rfl⟩ | ⟨rfl, rfl⟩), h2, h3⟩)
              · exact h
              · rw [r1] at h2; cases h2
              · rw [r2] at h2; cases h2
          · intro v hv
            constructor
            · exact Or.inl
            · rintro (h | ⟨u, (⟨rfl, rfl⟩ | ⟨rfl, rfl⟩), h2, h3⟩)
              · exact h
              · rw [r1] at h2; cases h2
              · rw [r2] at h2; cases h2
          · simp (disch := omega) only [f_X0_findNearest_b51, f_X0_findNearest_b126, e0, leF, if_false, fbit_e, e3, ho, bnd_e, b2i_t, if_true, get_e, m1, m2, spr_e, r1, r2, ftF, tfF, false_and, nam_e, Int32.or_zero, nI_1]
        · refine ⟨(upd cn (one i) (cn (one i) ||| cn (two i)), fr ||| 1 <<< (nI (one i) &&& 31)), key _ ?_ ?_, ?_⟩
          · intro k v hk hv
            try dsimp only
            rw [upd_e]
            by_cases hk1 : k = one i
            · subst hk1
              rw [if_pos rfl, b_or, Bool.or_eq_true, hold _ v w2 hv r2]
              constructor
              · rintro (h | h)
                · exact Or.inl h
                · exact Or.inr ⟨r1, two i, Or.inr ⟨rfl, rfl⟩, r2, h⟩
              · rintro (h | ⟨h1, u, (⟨rfl, h4⟩ | ⟨rfl, h4⟩), h2, h3⟩)
                · exact Or.inl h
                · exact absurd h4.symm w3
                · exact Or.inr h3
            · rw [if_neg hk1]
              constructor
              · exact Or.inl
              · rintro (h | ⟨h1, u, (⟨rfl, h4⟩ | ⟨rfl, h4⟩), h2, h3⟩)
                · exact h
                · rw [r1] at h2; cases h2
                · exact absurd h4.symm hk1
          · intro v hv
            try dsimp only
            rw [b_or, one_shl (by omega) hv, Bool.or_eq_true, decide_eq_true_eq]
            constructor
            · rintro (h | h)
              · exact Or.inl h
              · subst h; exact Or.inr ⟨two i, Or.inr ⟨rfl, rfl⟩, r2, r1⟩
            · rintro (h | ⟨u, (⟨rfl, h4⟩ | ⟨rfl, h4⟩), h2, h3⟩)
              · exact Or.inl h
              · rw [r1] at h2; cases h2
              · exact Or.inr h4.symm
          · simp (disch := omega) only [f_X0_findNearest_b51, f_X0_findNearest_b126, e0, leF, if_false, fbit_e, e3, ho, bnd_e, b2i_t, if_true, get_e, m1, m2, spr_e, r1, r2, ftF, tfF, false_and, and_self, nam_e, Int32.or_zero, nI_1]
        · refine ⟨(upd cn (two i) (cn (two i) ||| cn (one i)), fr ||| 1 <<< (nI (two i) &&& 31)), key _ ?_ ?_, ?_⟩
          · intro k v hk hv
            try dsimp only
            rw [upd_e]
            by_cases hk1 : k = two i
            · subst hk1
              rw [if_pos rfl, b_or, Bool.or_eq_true, hold _ v w1 hv r1]
              constructor
              · rintro (h | h)
                · exact Or.inl h
                · exact Or.inr ⟨r2, one i, Or.inl ⟨rfl, rfl⟩, r1, h⟩
              · rintro (h | ⟨h1, u, (⟨rfl, h4⟩ | ⟨rfl, h4⟩), h2, h3⟩)
                · exact Or.inl h
                · exact Or.inr h3
                · exact absurd h4 w3
            · rw [if_neg hk1]
              constructor
              · exact Or.inl
              · rintro (h | ⟨h1, u, (⟨rfl, h4⟩ | ⟨rfl, h4⟩), h2, h3⟩)
                · exact h
                · exact absurd h4.symm hk1
                · rw [r2] at h2; cases h2
          · intro v hv
            try dsimp only
            rw [b_or, one_shl (by omega) hv, Bool.or_eq_true, decide_eq_true_eq]
            constructor
            · rintro (h | h)
              · exact Or.inl h
              · subst h; exact Or.inr ⟨one i, Or.inl ⟨rfl, rfl⟩, r1, r2⟩
            · rintro (h | ⟨u, (⟨rfl, h4⟩ | ⟨rfl, h4⟩), h2, h3⟩)
              · exact Or.inl h
              · exact Or.inr h4.symm
              · rw [r2] at h2; cases h2
          · have ht : (true = false) = False := eq_false (by decide)
            simp (disch := omega) only [f_X0_findNearest_b51, f_X0_findNearest_b126, e0, leF, if_false, fbit_e, e3, ho, bnd_e, b2i_t, if_true, get_e, m1, m2, spr_e, r1, r2, ftF, tfF, false_and, and_self, nam_e, Int32.or_zero, nI_1, ht, and_false]
        · refine ⟨(cn, fr), key _ ?_ ?_, ?_⟩
          · intro k v hk hv
            constructor
            · exact Or.inl
            · rintro (h | ⟨h1, u, (⟨rfl, rfl⟩ | ⟨rfl, rfl⟩), h2, h3⟩)
              · exact h
              · rw [r2] at h1; cases h1
              · rw [r1] at h1; cases h1
          · intro v hv
            constructor
            · exact Or.inl
            · rintro (h | ⟨u, (⟨rfl, rfl⟩ | ⟨rfl, rfl⟩), h2, h3⟩)
              · exact h
              · rw [r2] at h3; cases h3
              · rw [r1] at h3; cases h3
          · have ht : (true = false) = False := eq_false (by decide)
            simp (disch := omega) only [f_X0_findNearest_b51, f_X0_findNearest_b126, e0, leF, if_false, fbit_e, e3, ho, bnd_e, b2i_t, if_true, get_e, m1, m2, spr_e, r1, r2, ht, and_false, nam_e, Int32.or_zero, nI_1]
      · -- shut
        have hf : opn i = false := by cases hh : opn i <;> simp_all
        have h01 : ((0 : Int32) = 1) = False := eq_false (by decide)
        refine ⟨(cn, fr), ⟨?_, ?_⟩, ?_⟩
        · intro k v hk hv
          try dsimp only
          rw [hs1 k v hk hv]
          refine or_congr Iff.rfl (and_congr Iff.rfl (exists_congr fun u => and_congr ?_ Iff.rfl))
          exact ⟨fun ⟨g, a1, a2, a3⟩ => ⟨g, by omega, a2, a3⟩, fun ⟨g, a1, a2, a3⟩ => ⟨g, by
            rcases Nat.lt_or_ge g i with q | q
            · exact q
            · have : g = i := by omega
              subst this
              exact absurd a2 ho, a2, a3⟩⟩
        · intro v hv
          try dsimp only
          rw [hs2 v hv]
          refine exists_congr fun u => and_congr ?_ Iff.rfl
          exact ⟨fun ⟨g, a1, a2, a3⟩ => ⟨g, by omega, a2, a3⟩, fun ⟨g, a1, a2, a3⟩ => ⟨g, by
            rcases Nat.lt_or_ge g i with q | q
            · exact q
            · have : g = i := by omega
              subst this
              exact absurd a2 ho, a2, a3⟩⟩
        · simp (disch := omega) only [f_X0_findNearest_b51, f_X0_findNearest_b126, e0, leF, if_false, fbit_e, e3, hf, bnd_e, b2i_f, h01, nam_e, nI_1]) (by
      rintro fu ⟨cn, fr⟩ -
      have e0 := hM.1
      have hG := hw.1
      simp (disch := omega) only [f_X0_findNearest_b51, e0, leT, if_true, nam_e]) (i := 0) (k := G) (fu := FU) (s := (n0, 0)) (by omega) (FU_lt (by have := hw.1; omega)) (by
      constructor
      · intro k v hk hv
        simp
      · intro v hv
        simp [b_0])
  refine ⟨s, ?_, ?_, e⟩
  · intro k v hk hv
    exact h1 k v hk hv
  · intro v hv
    exact h2 v hv
end CH
