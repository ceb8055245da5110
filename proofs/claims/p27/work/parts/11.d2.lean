/-! ways out against the wind -/
def FI (fl : Nat → Option Nat) (G k : Nat) (o : Option Nat) : Prop :=
  (∀ g, o = some g → g < G ∧ fl g = some k ∧ ∀ g', g' < g → fl g' ≠ some k) ∧ (o = none → ∀ g, g < G → fl g ≠ some k)
theorem FI.one {fl : Nat → Option Nat} {G k : Nat} {o o' : Option Nat} (h : FI fl G k o) (h' : FI fl G k o') : o = o' := by
  cases o with
  | none =>
    cases o' with
    | none => rfl
    | some g => exact absurd (h'.1 g rfl).2.1 (h.2 rfl g (h'.1 g rfl).1)
  | some g =>
    obtain ⟨a1, a2, a3⟩ := h.1 g rfl
    cases o' with
    | none => exact absurd a2 (h'.2 rfl g a1)
    | some g' =>
      obtain ⟨b1, b2, b3⟩ := h'.1 g' rfl
      rcases Nat.lt_trichotomy g g' with q | q | q
      · exact absurd a2 (b3 g q)
      · rw [q]
      · exact absurd b2 (a3 g' q)
theorem flw_low {G : Nat} {one two len dr : Nat → Nat} {opn : Nat → Bool} {moon : Bool} (hw : WF G one two len dr) {g k : Nat} (hg : g < G) (h : flw G one two opn moon dr g = some k) :
    (one g = k ∨ two g = k) ∧ ∃ x y, hgt G one two opn moon dr k = some x ∧ hgt G one two opn moon dr (if one g = k then two g else one g) = some y ∧ x < y := by
  obtain ⟨w1, w2, w3, -, -⟩ := hw.2.1 g hg
  unfold flw at h
  split at h
  · cases h1 : hgt G one two opn moon dr (one g) with
    | none => rw [h1] at h; cases h
    | some x =>
      cases h2 : hgt G one two opn moon dr (two g) with
      | none => rw [h1, h2] at h; cases h
      | some y =>
        rw [h1, h2] at h
        simp only [lowr] at h
        split at h
        · cases h
        · split at h
          · cases h
            refine ⟨Or.inl rfl, x, y, h1, ?_, by assumption⟩
            rw [if_pos rfl]
            exact h2
          · cases h
            refine ⟨Or.inr rfl, y, x, h2, ?_, by omega⟩
            rw [if_neg w3]
            exact h1
  · cases h
section WAY
variable {d a : A32} {cg cdoors cshafts : Int32} {cone ctwo clen cdr ci cl w : A32} {G : Nat} {one two len dr : Nat → Nat} {dor opn : Nat → Bool} {moon : Bool} {fl : Nat → Option Nat}
theorem first_e (h0 : cg = nI G) (hG : G ≤ 10) (hci : ∀ g, g < G → ci g = hI (fl g)) (hfl : ∀ g x, g < G → fl g = some x → x < 7) {k : Nat} (hk : k < 7) : ∃ o, FI fl G k o ∧ f_X0_firstInto ci cg (nI k) = some (hI o) := by
  unfold f_X0_firstInto
  refine lpP (fun fu (s : Unit) i => f_X0_firstInto_b2 ci cg (nI k) fu (nI i)) G (fun i s => ∀ g, g < i → fl g ≠ some k) (fun r => ∃ o, FI fl G k o ∧ r = some (hI o)) ?_ ?_ G 0 () FU (by omega) (FU_lt (by omega)) (fun g h => absurd h (Nat.not_lt_zero g))
  · intro fu i s hi hs
    have ec := hci i hi
    have hb : ∀ x, fl i = some x → x < 2 ^ 30 := fun x h => by have := hfl i x hi h; omega
    have hu : f_X0_firstInto_b2 ci cg (nI k) (fu + 1) (nI i) = if hI (fl i) = nI k then some (nI i) else f_X0_firstInto_b2 ci cg (nI k) fu (nI (i + 1)) := by
      simp (disch := omega) only [f_X0_firstInto_b2, h0, leF, if_false, get_e, bnd_e, ec, nam_e, nI_1]
    have hd : hI (fl i) = nI k ↔ fl i = some k := by
      rw [show nI k = hI (some k) from rfl]
      exact hI_inj hb (fun x h => by cases h; omega)
    try dsimp only
    rw [hu]
    by_cases q : fl i = some k
    · refine Or.inr ⟨some i, ⟨fun g hg => ?_, fun h => by cases h⟩, ?_⟩
      · cases hg
        exact ⟨hi, q, hs⟩
      · rw [if_pos (hd.mpr q)]
        rfl
    · refine Or.inl ⟨(), fun g hg => ?_, ?_⟩
      · rcases Nat.lt_or_ge g i with r | r
        · exact hs g r
        · have : g = i := by omega
          subst this
          exact q
      · rw [if_neg (fun r => q (hd.mp r))]
  · intro fu s hs
    refine ⟨none, ⟨fun g h => (by cases h), fun _ => hs⟩, ?_⟩
    simp (disch := omega) only [f_X0_firstInto_b2, h0, leT, if_true, hI]
def oe (one two : Nat → Nat) (k : Nat) : Option Nat → Int32
  | none => -1
  | some g => nI (if one g = k then two g else one g)
theorem down_e (hD : DA d G one two len dor opn moon dr) (hw : WF G one two len dr) (ha : LA a G fl) (hfl : ∀ g x, g < G → fl g = some x → x < 7) {k : Nat} (hk : k < 7) (k155 : Int32 → Option Int32) (k186 : Int32 → Int32 → Option Int32) (cg cs : Int32) (c1 c2 ci cl w : A32) (v2 v5 : Int32) (j : Nat) :
    ∃ o, FI fl G k o ∧ f_L_smoke_b211 k155 k186 59 cg cs c1 c2 ci cl d a w v2 v5 (nI k) (nI j) FU (-1) (dI G) = k186 (oe one two k o) (nI (j + 1)) := by
  have hG := hw.1
  have key : ∀ i, i ≤ G → ∀ fu o, i < fu → ((∀ g, o = some g → i ≤ g ∧ g < G ∧ fl g = some k ∧ ∀ g', i ≤ g' → g' < g → fl g' ≠ some k) ∧ (o = none → ∀ g, i ≤ g → g < G → fl g ≠ some k)) →
      ∃ o', FI fl G k o' ∧ f_L_smoke_b211 k155 k186 59 cg cs c1 c2 ci cl d a w v2 v5 (nI k) (nI j) fu (oe one two k o) (dI i) = k186 (oe one two k o') (nI (j + 1)) := by
    intro i
    induction i with
    | zero =>
      intro _ fu o hfu ho
      obtain ⟨fu, rfl⟩ : ∃ q, fu = q + 1 := ⟨fu - 1, by omega⟩
      refine ⟨o, ⟨fun g hg => ?_, fun h g hg => ho.2 h g (Nat.zero_le _) hg⟩, ?_⟩
      · obtain ⟨-, b1, b2, b3⟩ := ho.1 g hg
        exact ⟨b1, b2, fun g' h => b3 g' (Nat.zero_le _) h⟩
      · rw [show dI 0 = -1 from rfl]
        simp (disch := omega) only [f_L_smoke_b211, m1_lt0, if_true, nam_e, nI_1]
    | succ i ih =>
      intro hi fu o hfu ho
      obtain ⟨fu, rfl⟩ : ∃ q, fu = q + 1 := ⟨fu - 1, by omega⟩
      have ea := ha.at (by omega) (show i < G by omega)
      have hdec : nI i + -1 = dI i := by
        cases i with
        | zero => rfl
        | succ i => rw [pk_m1, dI, if_neg (by omega)]; rfl
      have hb : ∀ x, fl i = some x → x < 2 ^ 30 := fun x h => by have := hfl i x (by omega) h; omega
      have hd : hI (fl i) = nI k ↔ fl i = some k := by
        rw [show nI k = hI (some k) from rfl]
        exact hI_inj hb (fun x h => by cases h; omega)
      rw [show dI (i + 1) = nI i from rfl]
      by_cases q : fl i = some k
      · have hq : (hI (fl i) = nI k) = True := eq_true (hd.mpr q)
        obtain ⟨o', h1, h2⟩ := ih (by omega) fu (some i) (by omega) ⟨fun g hg => by
          cases hg
          exact ⟨Nat.le_refl _, by omega, q, fun g' h1 h2 => by omega⟩, fun h => by cases h⟩
        refine ⟨o', h1, ?_⟩
        rw [← h2]
        simp (disch := omega) only [f_L_smoke_b211, f_L_smoke_b235, lt0F, if_false, inT, if_true, cl_e, ea, hq, L_other_e hD hw (show i < G by omega) hk, bnd_e, nam_e, hdec, oe]
      · have hq : (hI (fl i) = nI k) = False := eq_false (fun r => q (hd.mp r))
        obtain ⟨o', h1, h2⟩ := ih (by omega) fu o (by omega) ⟨fun g hg => by
          obtain ⟨b0, b1, b2, b3⟩ := ho.1 g hg
          refine ⟨by omega, b1, b2, fun g' c1 c2 => ?_⟩
          rcases Nat.lt_or_ge i g' with r | r
          · exact b3 g' r c2
          · have : g' = i := by omega
            subst this
            exact q, fun h g b1 b2 => by
          rcases Nat.lt_or_ge i g with r | r
          · exact ho.2 h g r b2
          · have : g = i := by omega
            subst this
            exact q⟩
        refine ⟨o', h1, ?_⟩
        rw [← h2]
        simp (disch := omega) only [f_L_smoke_b211, f_L_smoke_b235, lt0F, if_false, inT, if_true, cl_e, ea, hq, nam_e, hdec]
  exact key G (Nat.le_refl _) FU none (FU_lt (by omega)) ⟨fun g h => (by cases h), fun _ g h1 h2 => absurd h1 (by omega)⟩
noncomputable def mu (G : Nat) (one two : Nat → Nat) (opn : Nat → Bool) (moon : Bool) (dr : Nat → Nat) (k : Nat) : Nat :=
  fb_ct (fun q => dcd (∃ x y, hgt G one two opn moon dr k = some x ∧ hgt G one two opn moon dr q = some y ∧ x < y)) 7
theorem mu_lt {k u x y : Nat} (hu : u < 7) (h1 : hgt G one two opn moon dr k = some x) (h2 : hgt G one two opn moon dr u = some y) (h3 : x < y) : mu G one two opn moon dr u < mu G one two opn moon dr k := by
  unfold mu
  refine fb_ct_lt (k := u) (fun j hj hp => ?_) hu (dcd_t.mpr ⟨x, y, h1, h2, h3⟩) (dcd_f.mpr ?_)
  · obtain ⟨z, t, b1, b2, b3⟩ := dcd_t.mp hp
    rw [h2] at b1
    cases b1
    exact dcd_t.mpr ⟨x, t, h1, b2, by omega⟩
  · rintro ⟨z, t, b1, b2, b3⟩
    rw [b1] at b2
    cases b2
    omega
theorem isS_e (hM : MA cg cdoors cshafts cone ctwo clen cdr G one two len dor dr) {k : Nat} (hk : k < 7) : f_X5_isShaft cshafts (nI k) = some (b2i (sft dr k)) := by
  unfold f_X5_isShaft
  rw [fbit_e _ (by omega), bnd_e, hM.2.2.2 k (by omega), decide_eq_true hk, Bool.true_and]
  cases sft dr k <;> rfl
theorem way_e (hM : MA cg cdoors cshafts cone ctwo clen cdr G one two len dor dr) (hD : DA d G one two len dor opn moon dr) (hw : WF G one two len dr) (ha : LA a G (flw G one two opn moon dr)) (hci : ∀ g, g < G → ci g = hI (flw G one two opn moon dr g)) (k155 : Int32 → Option Int32) (v2 v5 : Int32) {k : Nat} (hk : k < 7) :
    ∃ r v6 v7, f_X10_wayOut_b27 cg cshafts cone ctwo ci FU (nI k) 0 = some r ∧ f_L_smoke_b186 k155 59 cg cshafts cone ctwo ci cl d a w v2 v5 FU (nI k) 0 = f_L_smoke_b251 k155 59 cg cshafts cone ctwo ci cl d a w v2 v5 v6 v7 ∧ (if (0 : Int32) ≤ v6 then v7 else -1) = r := by
  have hG := hw.1
  have hfl : ∀ g x, g < G → flw G one two opn moon dr g = some x → x < 7 := fun g x hg h => flw_lt hw hg h
  have key : ∀ n, ∀ at' j fu fu', at' < 7 → mu G one two opn moon dr at' ≤ n → n + j ≤ 6 → n + 2 < fu → n + 2 < fu' → ∃ r v6 v7, f_X10_wayOut_b27 cg cshafts cone ctwo ci fu' (nI at') (nI j) = some r ∧ f_L_smoke_b186 k155 59 cg cshafts cone ctwo ci cl d a w v2 v5 fu (nI at') (nI j) = f_L_smoke_b251 k155 59 cg cshafts cone ctwo ci cl d a w v2 v5 v6 v7 ∧ (if (0 : Int32) ≤ v6 then v7 else -1) = r := by
    intro n
    induction n using Nat.strongRecOn with
    | _ n ih =>
      intro at' j fu fu' hat hmu hnj hfu hfu'
      obtain ⟨fu, rfl⟩ : ∃ q, fu = q + 2 := ⟨fu - 2, by omega⟩
      obtain ⟨fu', rfl⟩ : ∃ q, fu' = q + 2 := ⟨fu' - 2, by omega⟩
      have hiS := isS_e hM hat
      have e2 := hD.2.2.2 at' hat
      have hdr := hw.2.2.1 at' hat
      by_cases hs : 0 < dr at'
      · -- a shaft
        have hst : sft dr at' = true := decide_eq_true hs
        refine ⟨nI j, nI at', nI j, ?_, ?_, ?_⟩
        · simp (disch := omega) only [f_X10_wayOut_b27, le7F, if_false, hiS, hst, bnd_e, b2i_0, tfF]
        · simp (disch := omega) only [f_L_smoke_b186, lt0F, if_false, ad52, inT, if_true, cl_e, e2, eq0F]
        · rw [if_pos (nI_pos' (by omega))]
      · have hst : sft dr at' = false := decide_eq_false hs
        obtain ⟨o, ho, ef⟩ := first_e hM.1 (by omega) hci hfl hat
        obtain ⟨o', ho', ed⟩ := down_e hD hw ha hfl hat k155 (f_L_smoke_b186 k155 59 cg cshafts cone ctwo ci cl d a w v2 v5 (fu + 1)) cg cshafts cone ctwo ci cl w v2 v5 j
        have hoo := FI.one ho' ho
        subst hoo
        have elaw : f_L_smoke_b186 k155 59 cg cshafts cone ctwo ci cl d a w v2 v5 (fu + 2) (nI at') (nI j) = f_L_smoke_b186 k155 59 cg cshafts cone ctwo ci cl d a w v2 v5 (fu + 1) (oe one two at' o') (nI (j + 1)) := by
          rw [← ed]
          have hdG : nI G - 1 = dI G := by
            obtain ⟨m, rfl⟩ : ∃ m, G = m + 1 := ⟨G - 1, by omega⟩
            rw [nI_pred]
            rfl
          simp (disch := omega) only [f_L_smoke_b186, lt0F, if_false, ad52, inT, if_true, cl_e, e2, eq0T, in0, cl0, hD.1, hdG, nam_e]
        cases o' with
        | none =>
          refine ⟨-1, -1, nI (j + 1), ?_, ?_, ?_⟩
          · simp (disch := omega) only [f_X10_wayOut_b27, le7F, if_false, hiS, hst, bnd_e, b2i_0, if_true, ef, hI]
          · rw [elaw]
            simp (disch := omega) only [f_L_smoke_b186, oe, m1_lt0, if_true]
          · rw [if_neg (by decide)]
        | some g =>
          obtain ⟨b1, b2, b3⟩ := ho.1 g rfl
          obtain ⟨c1, x, y, c2, c3, c4⟩ := flw_low hw b1 b2
          obtain ⟨w1, w2, w3, -, -⟩ := hw.2.1 g b1
          have hu7 : (if one g = at' then two g else one g) < 7 := by split <;> assumption
          have hlt := mu_lt (G := G) (one := one) (two := two) (opn := opn) (moon := moon) (dr := dr) hu7 c2 c3 c4
          have ecl : f_X10_wayOut_b27 cg cshafts cone ctwo ci (fu' + 2) (nI at') (nI j) = f_X10_wayOut_b27 cg cshafts cone ctwo ci (fu' + 1) (nI (if one g = at' then two g else one g)) (nI (j + 1)) := by
            have hng : (nI g = (-1 : Int32)) = False := nI_nm1 (by omega)
            simp (disch := omega) only [f_X10_wayOut_b27, le7F, if_false, hiS, hst, bnd_e, b2i_0, if_true, ef, hI, hng, oth_e hM hw b1 hat, nam_e, nI_1]
          rw [ecl, elaw]
          exact ih (n - 1) (by omega) _ _ _ _ hu7 (by omega) (by omega) (by omega) (by omega)
  have hm6 : mu G one two opn moon dr k ≤ 6 := by
    have h1 : mu G one two opn moon dr k < 7 := by
      have hle : mu G one two opn moon dr k ≤ 7 := fb_ct_le _ 7
      refine Nat.lt_of_le_of_ne hle (fun e => ?_)
      have := fb_ct_all.mp e k hk
      obtain ⟨z, t, b1, b2, b3⟩ := dcd_t.mp this
      rw [b1] at b2
      cases b2
      omega
    omega
  exact key 6 k 0 FU FU hk hm6 (by omega) (FU_lt (by omega)) (FU_lt (by omega))
end WAY
