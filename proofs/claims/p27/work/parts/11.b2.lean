/-! heights: as the law reckons them -/
def WF (G : Nat) (one two len dr : Nat → Nat) : Prop := (1 ≤ G ∧ G ≤ 10) ∧ (∀ g, g < G → one g < 7 ∧ two g < 7 ∧ one g ≠ two g ∧ 1 ≤ len g ∧ len g ≤ 9) ∧ (∀ k, k < 7 → dr k ≤ 10) ∧ 2 ≤ fb_ct (fun k => decide (0 < dr k)) 7
def DA (d : A32) (G : Nat) (one two len : Nat → Nat) (dor opn : Nat → Bool) (moon : Bool) (dr : Nat → Nat) : Prop :=
  d 0 = nI G ∧ d 51 = b2i moon ∧ (∀ g, g < G → d (1 + g) = nI (one g) ∧ d (11 + g) = nI (two g) ∧ d (21 + g) = nI (len g) ∧ d (31 + g) = b2i (dor g) ∧ d (41 + g) = b2i (opn g)) ∧ ∀ k, k < 7 → d (52 + k) = nI (dr k)
def sh (moon : Bool) (dr : Nat → Nat) (q : Nat) : Nat := 12 * (if moon then 10 - dr q else dr q - 1)
def sft (dr : Nat → Nat) (k : Nat) : Bool := decide (0 < dr k)
noncomputable def nst (G : Nat) (one two : Nat → Nat) (opn : Nat → Bool) (dr : Nat → Nat) (k q : Nat) : Bool := dcd (Nst G one two opn (sft dr) k q)
noncomputable def hgt (G : Nat) (one two : Nat → Nat) (opn : Nat → Bool) (moon : Bool) (dr : Nat → Nat) (k : Nat) : Option Nat :=
  if fb_ct (nst G one two opn dr k) 7 = 0 then none else some (fb_sm (fun q => if nst G one two opn dr k q then sh moon dr q else 0) 7 / fb_ct (nst G one two opn dr k) 7)
def hI : Option Nat → Int32
  | none => -1
  | some n => nI n
theorem hit_6 {G : Nat} {a b : Nat → Nat} {o S : Nat → Bool} (ha : ∀ g, g < G → a g < 7 ∧ b g < 7) (hS : ∃ q, q < 7 ∧ S q = true) : ∀ t k, k < 7 → Hit G a b o S t k → Hit G a b o S 6 k := by
  intro t k hk hh
  by_cases h : ∃ r, r < 6 ∧ ∀ k, k < 7 → Hit G a b o S (r + 1) k → Hit G a b o S r k
  · obtain ⟨r, h1, h2⟩ := h
    exact (hit_stable ha h2 t k hk hh).le (by omega)
  · have h1 : ∀ r, r < 6 → ∃ k, k < 7 ∧ Hit G a b o S (r + 1) k ∧ ¬ Hit G a b o S r k := by
      intro r hr
      refine Classical.byContradiction fun hx => h ⟨r, hr, fun k hk h2 => Classical.byContradiction fun h3 => hx ⟨k, hk, h2, h3⟩⟩
    have h2 : ∀ r, r ≤ 6 → r + 1 ≤ fb_ct (fun k => dcd (Hit G a b o S r k)) 7 := by
      intro r
      induction r with
      | zero =>
        intro _
        obtain ⟨q, hq, hs⟩ := hS
        exact fb_ct_pos.mpr ⟨q, hq, dcd_t.mpr ((hit_0 hq).mpr hs)⟩
      | succ r ih =>
        intro hr
        have e1 := ih (by omega)
        obtain ⟨k, hk, h3, h4⟩ := h1 r (by omega)
        have e2 := fb_ct_lt (p := fun k => dcd (Hit G a b o S r k)) (q := fun k => dcd (Hit G a b o S (r + 1) k)) (n := 7) (k := k) (fun j hj hp => dcd_t.mpr ((dcd_t.mp hp).le (by omega))) hk (dcd_t.mpr h3) (dcd_f.mpr h4)
        omega
    have h3 := h2 6 (by omega)
    have h4 := fb_ct_le (fun k => dcd (Hit G a b o S 6 k)) 7
    exact dcd_t.mp (fb_ct_all.mp (Nat.le_antisymm h4 h3) k hk)
theorem sh_le {moon : Bool} {dr : Nat → Nat} {q : Nat} (h : dr q ≤ 10) : sh moon dr q ≤ 120 := by
  unfold sh
  cases moon <;> simp <;> omega
theorem L_shaft_e {d : A32} {G : Nat} {one two len dr : Nat → Nat} {dor opn : Nat → Bool} {moon : Bool} (hD : DA d G one two len dor opn moon dr) {q : Nat} (hq : q < 7) (h1 : 0 < dr q) (h2 : dr q ≤ 10) : f_L_shaft 59 d (nI q) = some (nI (sh moon dr q)) := by
  have e1 := hD.2.1
  have e2 := hD.2.2.2 q hq
  unfold f_L_shaft f_L_shaft_b30 sh
  cases moon
  · simp (disch := omega) only [in51, cl51, e1, b2i_1, ad52, inT, cl_e, e2, if_true, if_false]
    rw [k1, k12, pk_sub h1, pk_mul]
    rfl
  · simp (disch := omega) only [in51, cl51, e1, b2i_1, ad52, inT, cl_e, e2, if_true, if_false]
    rw [k10, k12, pk_sub h2, pk_mul]
section LH
variable {d : A32} {G : Nat} {one two len dr : Nat → Nat} {dor opn : Nat → Bool} {moon : Bool}
/-- one more ring of knots -/
theorem L_h33 (hD : DA d G one two len dor opn moon dr) (hw : WF G one two len dr) (kk : Int32 → Int32 → Option Int32) (v2 v3 : Int32) :
    ∃ v4, (∀ v, v < 32 → (bt v4 v = true ↔ bt v2 v = true ∨ ∃ g, g < G ∧ opn g = true ∧ ((bt v2 (one g) = true ∧ two g = v) ∨ (bt v2 (two g) = true ∧ one g = v)))) ∧ f_L_height_b33 kk 59 d v2 v3 FU v2 (nI 0) = f_L_height_b125 kk 59 d v3 v4 FU 0 0 0 := by
  have hG := hw.1
  refine lp (fun fu (s : Int32) i => f_L_height_b33 kk 59 d v2 v3 fu s (nI i)) G (fun i s => ∀ v, v < 32 → (bt s v = true ↔ bt v2 v = true ∨ ∃ g, g < i ∧ opn g = true ∧ ((bt v2 (one g) = true ∧ two g = v) ∨ (bt v2 (two g) = true ∧ one g = v)))) (fun s => f_L_height_b125 kk 59 d v3 s FU 0 0 0) ?_ ?_ (i := 0) (k := G) (by omega) (FU_lt (by omega)) ?_
  · intro fu i s hi hs
    obtain ⟨e1, e2, e3, e4, e5⟩ := hD.2.2.1 i hi
    obtain ⟨w1, w2, w3, -, -⟩ := hw.2.1 i hi
    have e0 := hD.1
    have one32 : ∀ v, v < 32 → bt (s ||| 1 <<< (nI (two i) &&& 31)) v = (bt s v || decide (v = two i)) := fun v hv => by rw [b_or, one_shl (by omega) hv]
    cases ho : opn i
    · refine ⟨s, fun v hv => ?_, ?_⟩
      · rw [hs v hv]
        refine or_congr Iff.rfl ⟨fun ⟨g, a1, a2, a3⟩ => ⟨g, by omega, a2, a3⟩, fun ⟨g, a1, a2, a3⟩ => ⟨g, ?_, a2, a3⟩⟩
        rcases Nat.lt_or_ge g i with q | q
        · exact q
        · have : g = i := by omega
          subst this
          rw [ho] at a2; cases a2
      · simp (disch := omega) only [f_L_height_b33, f_L_height_b110, in0, cl0, e0, leF, ad41, inT, cl_e, e5, ho, b2i_0, if_true, if_false, nam_e, nI_1]
    · -- open: both ends
      have h32 : ∀ (s1 : Int32) (x : Nat), x < 7 → ∀ v, v < 32 → (bt (s1 ||| 1 <<< (nI x &&& 31)) v = true ↔ bt s1 v = true ∨ x = v) := fun s1 x hx v hv => by
        rw [b_or, one_shl (by omega) hv]
        simp only [Bool.or_eq_true, decide_eq_true_eq]
        exact or_congr Iff.rfl eq_comm
      have st : ∀ s', (∀ v, v < 32 → (bt s' v = true ↔ bt s v = true ∨ ((bt v2 (one i) = true ∧ two i = v) ∨ (bt v2 (two i) = true ∧ one i = v)))) → ∀ v, v < 32 → (bt s' v = true ↔ bt v2 v = true ∨ ∃ g, g < i + 1 ∧ opn g = true ∧ ((bt v2 (one g) = true ∧ two g = v) ∨ (bt v2 (two g) = true ∧ one g = v))) := by
        intro s' hs' v hv
        rw [hs' v hv, hs v hv]
        constructor
        · rintro ((a1 | ⟨g, a1, a2, a3⟩) | a1)
          · exact Or.inl a1
          · exact Or.inr ⟨g, by omega, a2, a3⟩
          · exact Or.inr ⟨i, by omega, ho, a1⟩
        · rintro (a1 | ⟨g, a1, a2, a3⟩)
          · exact Or.inl (Or.inl a1)
          · rcases Nat.lt_or_ge g i with q | q
            · exact Or.inl (Or.inr ⟨g, q, a2, a3⟩)
            · have : g = i := by omega
              subst this
              exact Or.inr a3
      by_cases q1 : bt v2 (one i) = true <;> by_cases q2 : bt v2 (two i) = true
      · refine ⟨(s ||| (1 <<< (nI (two i) &&& 31))) ||| (1 <<< (nI (one i) &&& 31)), st _ (fun v hv => ?_), by simp (disch := omega) only [f_L_height_b33, f_L_height_b82, f_L_height_b110, in0, cl0, e0, leF, ad41, ad1, ad11, inT, cl_e, e1, e2, e5, ho, b2i_0, b2i_1, if_true, if_false, nam_e, nI_1, bit_e, q1, q2, ftF, tfF]⟩
        rw [h32 _ _ w1 v hv, h32 _ _ w2 v hv]
        simp [q1, q2, or_assoc]
      · refine ⟨s ||| (1 <<< (nI (two i) &&& 31)), st _ (fun v hv => ?_), by simp (disch := omega) only [f_L_height_b33, f_L_height_b82, f_L_height_b110, in0, cl0, e0, leF, ad41, ad1, ad11, inT, cl_e, e1, e2, e5, ho, b2i_0, b2i_1, if_true, if_false, nam_e, nI_1, bit_e, q1, q2, ftF, tfF]⟩
        rw [h32 _ _ w2 v hv]
        simp [q1, q2]
      · refine ⟨s ||| (1 <<< (nI (one i) &&& 31)), st _ (fun v hv => ?_), by simp (disch := omega) only [f_L_height_b33, f_L_height_b82, f_L_height_b110, in0, cl0, e0, leF, ad41, ad1, ad11, inT, cl_e, e1, e2, e5, ho, b2i_0, b2i_1, if_true, if_false, nam_e, nI_1, bit_e, q1, q2, ftF, tfF]⟩
        rw [h32 _ _ w1 v hv]
        simp [q1, q2]
      · refine ⟨s, st _ (fun v hv => ?_), by simp (disch := omega) only [f_L_height_b33, f_L_height_b82, f_L_height_b110, in0, cl0, e0, leF, ad41, ad1, ad11, inT, cl_e, e1, e2, e5, ho, b2i_0, b2i_1, if_true, if_false, nam_e, nI_1, bit_e, q1, q2, ftF, tfF]⟩
        simp [q1, q2]
  · intro fu s hs
    have e0 := hD.1
    simp (disch := omega) only [f_L_height_b33, in0, cl0, e0, leT, if_true]
  · intro v hv
    simp
end LH
