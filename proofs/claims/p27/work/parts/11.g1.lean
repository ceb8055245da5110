/-! draws, and one of a set -/
def nxt (q : Nat) : Nat := (1103515245 * q + 12345) % 2147483648
theorem nxt_lt (q : Nat) : nxt q < 2147483648 := Nat.mod_lt _ (by decide)
theorem nxtL_e {q : Nat} (hq : q < 2147483648) : ((lN q * 1103515245) + 12345) - ((lN q * 1103515245) + 12345) / 2147483648 * 2147483648 = lN (nxt q) := by
  rw [show (1103515245 : Int64) = lN 1103515245 from rfl, show (12345 : Int64) = lN 12345 from rfl, show (2147483648 : Int64) = lN 2147483648 from rfl, lN_mul, lN_add, pk_lRem (by omega) (by decide) (by decide)]
  unfold nxt
  rw [Nat.mul_comm]
theorem draw_e {q m : Nat} (hq : q < 2147483648) (hm : 0 < m) (hm2 : m < 1000) : f_X2_draw (nI q) (nI m) = some (nI (nxt q / 65536 % m), nI (nxt q)) := by
  have hn := nxt_lt q
  have h1 : nxt q / 65536 < 2147483648 := Nat.lt_of_le_of_lt (Nat.div_le_self _ _) hn
  unfold f_X2_draw
  have e : ((1103515245 * Int32.toInt64 (nI q)) + 12345) - ((1103515245 * Int32.toInt64 (nI q)) + 12345) / 2147483648 * 2147483648 = lN (nxt q) := by
    rw [nI_l (by omega), show (1103515245 : Int64) = lN 1103515245 from rfl, show (12345 : Int64) = lN 12345 from rfl, show (2147483648 : Int64) = lN 2147483648 from rfl, lN_mul, lN_add, pk_lRem (by omega) (by decide) (by decide)]
    rfl
  rw [e, lN_i, nam_e, if_neg (nI_nle hm (by omega)), if_neg (nI_ne0 hm (by omega)), show (65536 : Int32) = nI 65536 from rfl, pk_div (by omega) (by decide) (by decide), pk_rem (by omega) hm (by omega)]
theorem drawL_e {q m : Nat} (hq : q < 2147483648) (hm : 0 < m) (hm2 : m < 1000) : Int64.toInt32 ((lN q / 65536) - (lN q / 65536) / lN m * lN m) = nI (q / 65536 % m) := by
  have h1 : q / 65536 < 2147483648 := Nat.lt_of_le_of_lt (Nat.div_le_self _ _) hq
  rw [show (65536 : Int64) = lN 65536 from rfl, pk_lDiv (by omega) (by decide) (by decide), pk_lRem (by omega) hm (by omega), lN_i]
set_option maxRecDepth 100000 in
theorem low_all : ∀ m, m < 1024 → m ≠ 0 → ∃ i, i < 10 ∧ bt (nI m) i = true ∧ (∀ j, j < i → bt (nI m) j = false) ∧ f_J6_numberOfTrailingZeros_0f7a4 (nI m) = some (nI i) := by decide +kernel
set_option maxRecDepth 100000 in
theorem clr_all : ∀ m, m < 1024 → ∀ i, i < 10 → (bt (nI m) i = true ∧ ∀ j, j < i → bt (nI m) j = false) → ∀ j, j < 32 → bt (nI m &&& (nI m - 1)) j = (bt (nI m) j && decide (j ≠ i)) := by decide +kernel
theorem low_e {x : Int32} (h : ∀ i, 10 ≤ i → i < 32 → bt x i = false) (h0 : ∃ i, i < 10 ∧ bt x i = true) : ∃ i, i < 10 ∧ bt x i = true ∧ (∀ j, j < i → bt x j = false) ∧ f_J6_numberOfTrailingZeros_0f7a4 x = some (nI i) ∧ ∀ j, j < 32 → bt (x &&& (x - 1)) j = (bt x j && decide (j ≠ i)) := by
  obtain ⟨m, hm, rfl⟩ := bt_lt (by decide) h
  have hm0 : m ≠ 0 := by
    rintro rfl
    obtain ⟨i, _, hi⟩ := h0
    rw [show nI 0 = 0 from rfl, b_0] at hi
    cases hi
  obtain ⟨i, a1, a2, a3, a4⟩ := low_all m hm hm0
  exact ⟨i, a1, a2, a3, a4, clr_all m hm i a1 ⟨a2, a3⟩⟩
theorem place_e {x : Int32} (h : ∀ i, 10 ≤ i → i < 32 → bt x i = false) {w : Nat} (hw : w < fb_ct (bt x) 10) : ∃ i, i < 10 ∧ bt x i = true ∧ fb_ct (bt x) i = w ∧ f_X10_placeOfBit x (nI w) = some (nI i) := by
  have hw10 : w < 10 := Nat.lt_of_lt_of_le hw (fb_ct_le _ _)
  -- the lowest of those from the j-th on is the j-th
  have low : ∀ j, j ≤ w → ∀ s : Int32, (∀ i, i < 32 → bt s i = (bt x i && decide (j ≤ fb_ct (bt x) i))) → ∃ i, i < 10 ∧ bt x i = true ∧ fb_ct (bt x) i = j ∧ f_J6_numberOfTrailingZeros_0f7a4 s = some (nI i) ∧ ∀ k, k < 32 → bt (s &&& (s - 1)) k = (bt s k && decide (k ≠ i)) := by
    intro j hj s hs
    obtain ⟨i1, b1, b2, b3⟩ := fb_ct_kth (p := bt x) (k := j) (n := 10) (by omega)
    have hs1 : bt s i1 = true := by rw [hs i1 (by omega), b2, decide_eq_true (by omega)]; rfl
    obtain ⟨i, c1, c2, c3, c4, c5⟩ := low_e (x := s) (fun i h1 h2 => by rw [hs i h2, h i h1 h2]; rfl) ⟨i1, b1, hs1⟩
    rw [hs i (by omega), Bool.and_eq_true, decide_eq_true_eq] at c2
    have hle : i ≤ i1 := Classical.byContradiction fun q => by
      have := c3 i1 (by omega)
      rw [hs1] at this
      cases this
    have := fb_ct_mono (bt x) hle
    exact ⟨i, c1, c2.1, by omega, c4, c5⟩
  unfold f_X10_placeOfBit
  refine lpP (fun fu (s : Int32) j => f_X10_placeOfBit_b4 (nI w) fu s (nI j)) w (fun j s => ∀ i, i < 32 → bt s i = (bt x i && decide (j ≤ fb_ct (bt x) i))) (fun r => ∃ i, i < 10 ∧ bt x i = true ∧ fb_ct (bt x) i = w ∧ r = some (nI i)) ?_ ?_ w 0 x FU (by omega) (FU_lt (by omega)) ?_
  · intro fu j s hj hs
    obtain ⟨i, c1, c2, c3, c4, c5⟩ := low j (by omega) s hs
    refine Or.inl ⟨s &&& (s - 1), fun k hk => ?_, ?_⟩
    · rw [c5 k hk, hs k hk]
      by_cases q : bt x k = true
      · rw [q, Bool.true_and, Bool.true_and]
        refine bool_ext ?_
        rw [Bool.and_eq_true, decide_eq_true_eq, decide_eq_true_eq, decide_eq_true_eq]
        constructor
        · rintro ⟨a1, a2⟩
          have : fb_ct (bt x) k ≠ j := fun e => a2 (fb_ct_kth_one q c2 (by omega))
          omega
        · intro a1
          refine ⟨by omega, fun e => ?_⟩
          subst e
          omega
      · have qf : bt x k = false := by cases hh : bt x k <;> simp_all
        rw [qf]
        rfl
    · simp (disch := omega) only [f_X10_placeOfBit_b4, leF, if_false, nam_e, nI_1]
  · intro fu s hs
    obtain ⟨i, c1, c2, c3, c4, -⟩ := low w (Nat.le_refl _) s hs
    refine ⟨i, c1, c2, c3, ?_⟩
    simp (disch := omega) only [f_X10_placeOfBit_b4, leT, if_true, c4, bnd_e]
  · intro i hi
    rw [decide_eq_true (Nat.zero_le _), Bool.and_true]
section GA
variable {cg cdoors cshafts : Int32} {cone ctwo clen cdr : A32} {G : Nat} {one two len dr : Nat → Nat} {dor opn : Nat → Bool}
/-- the open galleries at a knot -/
def wys (one two : Nat → Nat) (opn : Nat → Bool) (k g : Nat) : Bool := opn g && decide (one g = k ∨ two g = k)
theorem galsAt_e (hM : MA cg cdoors cshafts cone ctwo clen cdr G one two len dor dr) (hw : WF G one two len dr) {copen : Int32} (ho : ∀ g, g < G → bt copen g = opn g) {k : Nat} (hk : k < 7) : ∃ x, f_X5_galleriesAt cg cone ctwo (nI k) copen = some x ∧ ∀ i, i < 32 → bt x i = (decide (i < G) && wys one two opn k i) := by
  have hG := hw.1
  have e0 := hM.1
  obtain ⟨x, h1, e⟩ := lp (fun fu (s : Int32) i => f_X5_galleriesAt_b5 cg cone ctwo (nI k) copen fu s (nI i)) G (fun i s => ∀ j, j < 32 → bt s j = (decide (j < i) && wys one two opn k j)) (fun s => some s) (by
      intro fu i s hi hs
      have hat := isAt_e hM hw hi hk
      have ext : ∀ s' : Int32, (∀ j, j < 32 → bt s' j = (bt s j || (decide (j = i) && wys one two opn k j))) → ∀ j, j < 32 → bt s' j = (decide (j < i + 1) && wys one two opn k j) := by
        intro s' hs' j hj
        rw [hs' j hj, hs j hj]
        by_cases q : j = i
        · subst q; simp
        · by_cases q2 : j < i
          · have q3 : j < i + 1 := by omega
            simp [q, q2, q3]
          · have q3 : ¬ j < i + 1 := by omega
            simp [q, q2, q3]
      by_cases q : one i = k ∨ two i = k
      · refine ⟨s ||| (copen &&& (1 <<< (nI i &&& 31))), ext _ (fun j hj => ?_), ?_⟩
        · rw [b_or, b_and, one_shl (by omega) hj]
          by_cases r : j = i
          · subst r
            rw [ho j hi]
            unfold wys
            simp [q]
          · simp [r]
        · have one0 : ((1 : Int32) = 0) = False := eq_false (by decide)
          simp (disch := omega) only [f_X5_galleriesAt_b5, f_X5_galleriesAt_b33, e0, leF, if_false, hat, decide_eq_true q, b2i_t, bnd_e, one0, nam_e, nI_1]
      · refine ⟨s, ext _ (fun j hj => ?_), ?_⟩
        · by_cases r : j = i
          · subst r
            unfold wys
            simp [q]
          · simp [r]
        · simp (disch := omega) only [f_X5_galleriesAt_b5, f_X5_galleriesAt_b33, e0, leF, if_false, hat, decide_eq_false q, b2i_f, bnd_e, if_true, nam_e, nI_1]) (by
      intro fu s _
      simp (disch := omega) only [f_X5_galleriesAt_b5, e0, leT, if_true]) (i := 0) (k := G) (fu := FU) (s := 0) (by omega) (FU_lt (by omega)) (fun j hj => by simp [b_0])
  exact ⟨x, e, h1⟩
end GA
theorem copyR_e {n : Nat} (hn : n < 1000) (c q : A32) : ∃ c', f_X8_copyFrom n n c q = some c' ∧ ∀ i, i < n → c' i = q i := by
  obtain ⟨c', h1, e⟩ := lp (fun fu (s : A32) i => f_X8_copyFrom_b2 n n q fu s (nI i)) n (fun i s => ∀ j, j < i → s j = q j) (fun s => some s) (by
      intro fu i s hi hs
      refine ⟨upd s i (q i), fun j hj => ?_, ?_⟩
      · rw [upd_e]
        by_cases r : j = i
        · subst r; rw [if_pos rfl]
        · rw [if_neg r]; exact hs j (by omega)
      · simp (disch := omega) only [f_X8_copyFrom_b2, leF, if_false, get_e, bnd_e, inT, if_true, cl_e, nam_e, nI_1]) (by
      intro fu s _
      simp (disch := omega) only [f_X8_copyFrom_b2, leT, if_true]) (i := 0) (k := n) (fu := FU) (s := c) (by omega) (FU_lt (by omega)) (fun j h => absurd h (Nat.not_lt_zero j))
  exact ⟨c', e, h1⟩
theorem sum_e {c : A32} {gas : Nat → Nat} (hg : ∀ k, k < 7 → gas k ≤ 9) (hc : ∀ k, k < 7 → c k = nI (gas k)) : f_X8_sum 7 c = some (nI (fb_sm gas 7)) := by
  obtain ⟨s, h1, e⟩ := lp (fun fu (s : Int32) i => f_X8_sum_b4 7 c fu s (nI i)) 7 (fun i s => s = nI (fb_sm gas i)) (fun s => some s) (by
      rintro fu i s hi rfl
      refine ⟨nI (fb_sm gas (i + 1)), rfl, ?_⟩
      rw [fb_sm_succ]
      have e7 : (nI 7 ≤ nI i) = False := leF hi (by decide)
      simp (disch := omega) only [f_X8_sum_b4, e7, if_false, inT, if_true, cl_e, hc i hi, nI_add, nam_e, nI_1]) (by
      rintro fu s -
      have e7 : (nI 7 ≤ nI 7) = True := leT (Nat.le_refl _) (by decide)
      simp (disch := omega) only [f_X8_sum_b4, e7, if_true]) (i := 0) (k := 7) (fu := FU) (s := 0) rfl (FU_lt (by decide)) rfl
  subst h1
  exact e
